/** Promise 14: finding. */
final class P14FindingTest {
    private static final int[] SEVERITIES = {3, 3, 2, 2, 3, 3, 3, 3, 2, 1, 3, 2, 2, 1};

    public static void main(String[] args) {
        tellsEachFinding();
        refuses();
        everySeverity();
        Check.end();
    }

    private static CompatibilityJudge twoFindings() {
        CompatibilityJudge x = new CompatibilityJudge();
        x.type(0, 2, 0, 1, -1);
        x.type(0, 8, 0, 1, -1);
        x.type(1, 8, 0, 1, -1);
        x.member(0, 8, 0, 30, 0);
        x.member(0, 8, 0, 31, 11);
        x.constant(0, 8, 1, 6);
        x.member(1, 8, 0, 31, 11);
        return x;
    }

    private static void tellsEachFinding() {
        CompatibilityJudge x = twoFindings();
        x.suppress(9, 8, true);
        x.suppress(0, 8, true);
        int[][] due = {{0, 2, -1, 3, 0}, {9, 8, 1, 1, 1}};
        for (int index = 0; index < 2; index++) {
            for (int what = 0; what < 5; what++) {
                Check.due(x.finding(index, what), due[index][what]);
            }
        }
        x.suppress(9, 8, false);
        Check.due(x.finding(1, 4), 0);
        x.type(1, 2, 0, 1, -1);
        Check.due(x.finding(0, 0), 9);
        Check.due(x.finding(1, 0), Check.REFUSED);
    }

    private static void refuses() {
        CompatibilityJudge x = twoFindings();
        Check.due(x.finding(2, 0), Check.REFUSED);
        Check.due(x.finding(2, 4), Check.REFUSED);
        Check.due(x.finding(-1, 0), Check.REFUSED);
        Check.due(x.finding(Integer.MAX_VALUE, 0), Check.REFUSED);
        Check.due(x.finding(Integer.MIN_VALUE, 0), Check.REFUSED);
        Check.due(x.finding(1, 5), Check.REFUSED);
        Check.due(x.finding(1, -1), Check.REFUSED);
        Check.due(x.finding(1, Integer.MAX_VALUE), Check.REFUSED);
        Check.due(x.findings(), 2);
    }

    /** One object in which every rule is broken. */
    private static void everySeverity() {
        CompatibilityJudge x = everyRule();
        boolean[] seen = new boolean[14];
        for (int i = 0; i < x.findings(); i++) {
            int rule = x.finding(i, 0);
            seen[rule] = true;
            Check.due(x.finding(i, 3), SEVERITIES[rule]);
        }
        for (int rule = 0; rule < 14; rule++) {
            Check.due(seen[rule] ? 1 : 0, 1);
        }
    }

    static CompatibilityJudge everyRule() {
        CompatibilityJudge x = new CompatibilityJudge();
        x.type(0, 0, 0, 1, -1);
        x.type(0, 1, 0, 1, -1);
        x.type(1, 1, 1, 1, -1);
        x.type(0, 2, 0, 1, -1);
        x.type(1, 2, 0, 3, -1);
        x.type(0, 3, 0, 1, 2);
        x.type(1, 3, 0, 5, -1);
        x.member(0, 2, 1, 7, 3);
        x.member(1, 2, 1, 7, 3);
        x.member(1, 3, 1, 7, 1);
        x.type(0, 4, 0, 1, -1);
        x.type(1, 4, 0, 1, -1);
        int[][] pairs = {{0, 3, 1}, {0, 3, 7}, {0, 3, 11}, {0, 3, 3}, {1, 3, 19}, {1, 3, 11}};
        for (int place = 0; place < 6; place++) {
            x.member(0, 4, pairs[place][0], place, pairs[place][1]);
            x.member(1, 4, pairs[place][0], place, pairs[place][2]);
        }
        x.constant(0, 4, 3, 1);
        x.member(0, 4, 2, 0, 3);
        x.member(1, 4, 1, 99, 19);
        return x;
    }
}
