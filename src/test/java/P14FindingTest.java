/** Promise 14: finding. */
final class P14FindingTest {
    private static final int[] SEVERITIES = {3, 3, 2, 2, 3, 3, 3, 3, 2, 1, 3, 2, 2, 1};

    public static void main(String[] args) {
        Check.sentence("Of the finding at the index (from 0)", P14FindingTest::index);
        Check.sentence("its rule (0)", () -> dueFor(0, 0, 9));
        Check.sentence("type (1)", () -> dueFor(1, 2, 8));
        Check.sentence("DETAIL (2)", () -> dueFor(2, -1, 1));
        Check.sentence("or -1 for the rules 0 .. 3", P14FindingTest::noDetail);
        Check.sentence("severity (3)", P14FindingTest::severities);
        Check.sentence("1 if it is suppressed, else 0 (4)", P14FindingTest::suppressed);
        Check.sentence("REFUSED for no such finding", P14FindingTest::noSuchFinding);
        Check.sentence("REFUSED for another what", P14FindingTest::anotherWhat);
        Check.end();
    }

    private static void twoFindings(Judge x) {
        x.type(0, 2, 0, 1, -1);
        x.type(0, 8, 0, 1, -1);
        x.type(1, 8, 0, 1, -1);
        x.member(0, 8, 0, 30, 0);
        x.member(0, 8, 0, 31, 11);
        x.constant(0, 8, 1, 6);
        x.member(1, 8, 0, 31, 11);
    }

    private static void dueFor(int what, int first, int second) {
        Judge x = new Judge();
        twoFindings(x);
        Check.due(x.finding(0, what), first);
        Check.due(x.finding(1, what), second);
        Judge y = new Judge();
        twoFindings(y);
        Check.due(y.finding(1, what), second);
        Check.due(y.finding(0, what), first);
    }

    private static void index() {
        Judge x = new Judge();
        for (int type = 0; type < 12; type++) {
            x.type(0, type, 0, 1, -1);
            for (int i = 0; i <= type; i++) {
                Check.due(x.finding(i, 1), i);
            }
            Check.refused(x.finding(type + 1, 1));
            Check.refused(x.finding(-1, 1));
        }
    }

    private static void noDetail() {
        Judge x = everyRule();
        int[] seen = new int[14];
        for (int i = 0; i < x.findings(); i++) {
            int rule = x.finding(i, 0);
            seen[rule]++;
            Check.due(x.finding(i, 2) == -1 ? 1 : 0, rule <= 3 ? 1 : 0);
        }
        for (int rule = 0; rule < 14; rule++) {
            Check.due(seen[rule] > 0 ? 1 : 0, 1);
        }
    }

    private static void severities() {
        Judge x = everyRule();
        int seen = 0;
        for (int i = 0; i < x.findings(); i++) {
            int rule = x.finding(i, 0);
            seen |= 1 << rule;
            Check.due(x.finding(i, 3), SEVERITIES[rule]);
        }
        Check.due(seen, (1 << 14) - 1);
    }

    private static void suppressed() {
        Judge x = new Judge();
        twoFindings(x);
        Check.due(x.finding(0, 4), 0);
        Check.due(x.finding(1, 4), 0);
        x.suppress(9, 8, true);
        x.suppress(0, 8, true);
        x.suppress(9, 2, true);
        Check.due(x.finding(0, 4), 0);
        Check.due(x.finding(1, 4), 1);
        Check.due(x.finding(1, 0), 9);
        Check.due(x.finding(1, 3), 1);
        x.suppress(9, 8, false);
        x.suppress(0, 2, true);
        Check.due(x.finding(0, 4), 1);
        Check.due(x.finding(1, 4), 0);
    }

    private static void noSuchFinding() {
        for (int each = 0; each < 5; each++) {
            int what = each;
            Check.refusedOutside(0, 1, P14FindingTest::twoFindings, (x, n) -> x.finding(n, what));
            Check.refusedOutside(0, 2, Rich::build, (x, n) -> x.finding(n, what));
            Check.refused(Check::nothing, x -> x.finding(0, what));
        }
        Judge x = new Judge();
        twoFindings(x);
        Check.due(x.finding(1, 0), 9);
        x.type(1, 2, 0, 1, -1);
        Check.due(x.finding(0, 0), 9);
        Check.refused(x.finding(1, 0));
    }

    private static void anotherWhat() {
        Check.refusedOutside(0, 4, P14FindingTest::twoFindings, (x, n) -> x.finding(0, n));
        Check.refusedOutside(0, 4, Rich::build, (x, n) -> x.finding(2, n));
        Check.refusedOutside(0, 4, Check::nothing, (x, n) -> x.finding(0, n));
    }

    /** One object in which every rule is broken. */
    static Judge everyRule() {
        Judge x = new Judge();
        x.type(0, 0, 0, 1, -1);
        x.type(0, 1, 0, 1, -1);
        x.type(1, 1, 1, 1, -1);
        x.type(0, 2, 0, 1, -1);
        x.type(1, 2, 0, 3, -1);
        x.type(0, 3, 0, 1, 2);
        x.type(1, 3, 0, 5, -1);
        x.member(0, 2, 1, 7, 3);
        x.member(1, 2, 1, 7, 3);
        x.member(1, 3, 1, 7, 1);
        x.type(0, 4, 0, 1, -1);
        x.type(1, 4, 0, 1, -1);
        int[][] pairs = {{0, 3, 1}, {0, 3, 7}, {0, 3, 11}, {0, 3, 3}, {1, 3, 19}, {1, 3, 11}};
        for (int place = 0; place < 6; place++) {
            x.member(0, 4, pairs[place][0], place, pairs[place][1]);
            x.member(1, 4, pairs[place][0], place, pairs[place][2]);
        }
        x.constant(0, 4, 3, 1);
        x.member(0, 4, 2, 0, 3);
        x.member(1, 4, 1, 99, 19);
        return x;
    }
}
