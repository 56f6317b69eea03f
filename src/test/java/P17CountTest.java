/** Promise 17: count. */
final class P17CountTest {
    public static void main(String[] args) {
        CompatibilityJudge x = new CompatibilityJudge();
        dueCounts(x, 0, 0, 0, 0, 0);
        x.type(0, 1, 0, 0, -1);
        x.type(0, 4, 1, 1, -1);
        x.type(1, 4, 0, 1, -1);
        dueCounts(x, 2, 1, 0, 0, 0);
        x.member(0, 1, 0, 1, 0);
        x.member(0, 1, 2, 1, 0);
        x.member(0, 4, 1, 1, 3);
        x.member(1, 4, 1, 1, 3);
        dueCounts(x, 2, 1, 3, 1, 0);
        x.suppress(0, 0, true);
        x.suppress(13, 11, true);
        x.suppress(13, 11, true);
        dueCounts(x, 2, 1, 3, 1, 2);
        x.swap();
        dueCounts(x, 1, 2, 1, 3, 2);
        x.drop(1, 1, 0);
        x.suppress(0, 0, false);
        dueCounts(x, 1, 2, 1, 2, 1);
        x.remove(1, 1);
        dueCounts(x, 1, 1, 1, 1, 1);
        x.remove(0, 4);
        x.copy();
        dueCounts(x, 0, 0, 0, 0, 1);
        x.type(0, 0, 0, 1, -1);
        x.type(0, 11, 0, 1, -1);
        x.member(0, 0, 1, 1, 3);
        x.member(0, 11, 1, 1, 3);
        dueCounts(x, 2, 0, 2, 0, 1);
        Check.due(x.count(-1), Check.REFUSED);
        Check.due(x.count(5), Check.REFUSED);
        Check.due(x.count(Integer.MIN_VALUE), Check.REFUSED);
        Check.due(x.count(Integer.MAX_VALUE), Check.REFUSED);
        Check.end();
    }

    private static void dueCounts(CompatibilityJudge x, int... due) {
        for (int what = 0; what < 5; what++) {
            Check.due(x.count(what), due[what]);
        }
    }
}
