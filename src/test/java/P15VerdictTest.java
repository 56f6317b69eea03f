/** Promise 15: verdict. */
final class P15VerdictTest {
    private static final int[] SEVERITIES = {3, 3, 2, 2, 3, 3, 3, 3, 2, 1, 3, 2, 2, 1};

    public static void main(String[] args) {
        Check.sentence("The greatest severity among the findings", P15VerdictTest::greatest);
        Check.sentence("that are not suppressed", P15VerdictTest::notSuppressed);
        Check.sentence("0 if there is none: no finding", P15VerdictTest::noFinding);
        Check.sentence("0 if there is none: all are suppressed", P15VerdictTest::allSuppressed);
        Check.sentence("the severity of each rule", P15VerdictTest::eachRule);
        Check.end();
    }

    private static void greatest() {
        Judge x = new Judge();
        x.type(0, 4, 0, 1, -1);
        x.type(1, 4, 0, 1, -1);
        Check.due(x.verdict(), 0);
        x.member(1, 4, 1, 1, 19);
        Check.due(x.verdict(), 1);
        x.member(0, 4, 1, 2, 3);
        x.member(1, 4, 1, 2, 11);
        Check.due(x.verdict(), 2);
        x.member(0, 4, 1, 3, 3);
        Check.due(x.verdict(), 3);
        x.drop(0, 4, 0);
        Check.due(x.verdict(), 3);
        x.drop(0, 4, 0);
        Check.due(x.verdict(), 1);
        x.drop(1, 4, 0);
        Check.due(x.verdict(), 0);
    }

    private static void notSuppressed() {
        Judge x = new Judge();
        x.type(0, 4, 0, 1, -1);
        x.type(1, 4, 0, 1, -1);
        x.type(0, 5, 0, 1, -1);
        x.type(1, 5, 0, 3, -1);
        x.member(1, 4, 1, 1, 19);
        x.member(0, 4, 1, 3, 3);
        Check.due(x.verdict(), 3);
        x.suppress(5, 5, true);
        Check.due(x.verdict(), 3);
        x.suppress(5, 4, true);
        Check.due(x.verdict(), 2);
        x.suppress(2, 4, true);
        Check.due(x.verdict(), 2);
        x.suppress(2, 5, true);
        Check.due(x.verdict(), 1);
        x.suppress(13, 4, true);
        Check.due(x.verdict(), 0);
        x.suppress(2, 5, false);
        Check.due(x.verdict(), 2);
        x.suppress(5, 4, false);
        Check.due(x.verdict(), 3);
    }

    private static void noFinding() {
        Judge x = new Judge();
        Check.due(x.verdict(), 0);
        x.type(1, 5, 0, 1, -1);
        x.type(0, 6, 0, 0, -1);
        Check.due(x.verdict(), 0);
        x.type(0, 5, 1, 1, -1);
        Check.due(x.verdict(), 3);
        x.copy();
        Check.due(x.verdict(), 0);
    }

    private static void allSuppressed() {
        Judge x = new Judge();
        for (int type = 0; type < 12; type++) {
            x.type(0, type, 0, 1, -1);
        }
        for (int type = 0; type < 12; type++) {
            Check.due(x.verdict(), 3);
            x.suppress(0, type, true);
        }
        Check.due(x.verdict(), 0);
        Check.due(x.findings(), 12);
        x.suppress(0, 11, false);
        Check.due(x.verdict(), 3);
    }

    /** With all rules but one suppressed, the verdict is the severity of that one. */
    private static void eachRule() {
        for (int rule = 0; rule < 14; rule++) {
            Judge x = P14FindingTest.everyRule();
            for (int other = 0; other < 14; other++) {
                for (int type = 0; type < 12; type++) {
                    x.suppress(other, type, other != rule);
                }
            }
            Check.due(x.verdict(), SEVERITIES[rule]);
        }
    }
}
