/** Promise 9: swap. */
final class P09SwapTest {
    public static void main(String[] args) {
        CompatibilityJudge x = new CompatibilityJudge();
        x.type(0, 1, 0, 1, -1);
        x.type(0, 2, 0, 1, 1);
        x.member(0, 2, 1, 5, 3);
        x.type(1, 1, 0, 5, -1);
        x.type(1, 3, 1, 1, -1);
        x.suppress(0, 3, true);
        Check.dueFindings(x, "3 1 -1", "0 2 -1");
        String before = Check.state(x);
        x.swap();
        Check.due(x.count(0), 2);
        Check.due(x.count(1), 2);
        Check.due(x.count(2), 0);
        Check.due(x.count(3), 1);
        Check.due(x.count(4), 1);
        Check.due(x.look(0, 2, 1, 5), 12);
        Check.due(x.look(1, 2, 1, 5), 2);
        Check.due(x.supertypes(0, 2), 0);
        Check.due(x.supertypes(1, 2), 2);
        Check.dueFindings(x, "0 3 -1");
        Check.due(x.finding(0, 4), 1);
        x.swap();
        Check.dueSame(Check.state(x), before);
        changesGoToTheSwappedSides(x);
        Check.end();
    }

    private static void changesGoToTheSwappedSides(CompatibilityJudge x) {
        x.swap();
        Check.due(x.remove(0, 3), 1);
        Check.due(x.remove(1, 3), Check.REFUSED);
        Check.due(x.count(0), 1);
        Check.due(x.drop(1, 2, 0), 0);
        Check.due(x.copy(), 1);
        Check.due(x.supertypes(1, 2), 0);
    }
}
