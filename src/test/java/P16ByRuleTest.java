/** Promise 16: byRule. */
final class P16ByRuleTest {
    public static void main(String[] args) {
        countsEachRule();
        leavesSuppressedOnesOut();
        refuses();
        Check.end();
    }

    private static void countsEachRule() {
        CompatibilityJudge x = P14FindingTest.everyRule();
        int[] due = new int[14];
        for (int i = 0; i < x.findings(); i++) {
            due[x.finding(i, 0)]++;
        }
        for (int rule = 0; rule < 14; rule++) {
            Check.due(x.byRule(rule), due[rule]);
            for (int type = 0; type < 12; type++) {
                x.suppress(rule, type, true);
            }
            Check.due(x.byRule(rule), 0);
        }
    }

    private static void leavesSuppressedOnesOut() {
        CompatibilityJudge x = new CompatibilityJudge();
        for (int type = 0; type < 12; type++) {
            x.type(0, type, 0, 1, -1);
            x.type(1, type, 0, 1, -1);
            x.member(0, type, 1, 1, 3);
            x.member(0, type, 1, 2, 3);
        }
        Check.due(x.byRule(5), 24);
        x.suppress(5, 0, true);
        Check.due(x.byRule(5), 22);
        x.suppress(5, 11, true);
        Check.due(x.byRule(5), 20);
        x.suppress(4, 3, true);
        Check.due(x.byRule(5), 20);
        x.suppress(5, 0, false);
        Check.due(x.byRule(5), 22);
        x.member(1, 6, 1, 1, 3);
        Check.due(x.byRule(5), 21);
        Check.due(x.byRule(6), 0);
    }

    private static void refuses() {
        CompatibilityJudge x = new CompatibilityJudge();
        Check.due(x.byRule(-1), Check.REFUSED);
        Check.due(x.byRule(14), Check.REFUSED);
        Check.due(x.byRule(Integer.MIN_VALUE), Check.REFUSED);
        Check.due(x.byRule(Integer.MAX_VALUE), Check.REFUSED);
        Check.due(x.byRule(0), 0);
        Check.due(x.byRule(13), 0);
    }
}
