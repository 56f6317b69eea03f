/** Promise 15: verdict. */
final class P15VerdictTest {
    public static void main(String[] args) {
        CompatibilityJudge x = new CompatibilityJudge();
        x.type(0, 4, 0, 1, -1);
        x.type(1, 4, 0, 1, -1);
        Check.due(x.verdict(), 0);
        x.member(1, 4, 1, 1, 19);
        Check.due(x.verdict(), 1);
        x.member(0, 4, 1, 2, 3);
        x.member(1, 4, 1, 2, 11);
        Check.due(x.verdict(), 2);
        x.member(0, 4, 1, 3, 3);
        Check.due(x.verdict(), 3);
        x.suppress(11, 4, true);
        Check.due(x.verdict(), 3);
        x.suppress(5, 4, true);
        Check.due(x.verdict(), 1);
        x.suppress(11, 4, false);
        Check.due(x.verdict(), 2);
        x.suppress(13, 4, true);
        x.suppress(11, 4, true);
        Check.due(x.verdict(), 0);
        x.type(0, 5, 0, 1, -1);
        Check.due(x.verdict(), 3);
        x.type(1, 5, 0, 3, -1);
        Check.due(x.verdict(), 2);
        x.suppress(2, 4, true);
        Check.due(x.verdict(), 2);
        x.suppress(2, 5, true);
        Check.due(x.verdict(), 0);
        x.suppress(5, 4, false);
        Check.due(x.verdict(), 3);
        x.copy();
        Check.due(x.verdict(), 0);
        Check.end();
    }
}
