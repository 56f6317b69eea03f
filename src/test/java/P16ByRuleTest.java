/** Promise 16: byRule. */
final class P16ByRuleTest {
    public static void main(String[] args) {
        Check.sentence("How many findings the rule has", P16ByRuleTest::eachRule);
        Check.sentence("not suppressed", P16ByRuleTest::notSuppressed);
        Check.sentence("none and many", P16ByRuleTest::noneAndMany);
        Check.sentence("REFUSED for a rule not 0 .. 13", P16ByRuleTest::rules);
        Check.end();
    }

    private static void eachRule() {
        Judge x = P14FindingTest.everyRule();
        int[] due = new int[14];
        for (int i = 0; i < x.findings(); i++) {
            due[x.finding(i, 0)]++;
        }
        for (int rule = 0; rule < 14; rule++) {
            Check.due(due[rule] > 0 ? 1 : 0, 1);
            Check.due(x.byRule(rule), due[rule]);
        }
        Judge y = P14FindingTest.everyRule();
        for (int rule = 13; rule >= 0; rule--) {
            for (int type = 0; type < 12; type++) {
                y.suppress(rule, type, true);
            }
            Check.due(y.byRule(rule), 0);
            if (rule > 0) {
                Check.due(y.byRule(rule - 1), due[rule - 1]);
            }
        }
    }

    private static void notSuppressed() {
        Judge x = new Judge();
        for (int type = 0; type < 12; type++) {
            x.type(0, type, 0, 1, -1);
            x.type(1, type, 0, 1, -1);
            x.member(0, type, 1, 1, 3);
            x.member(0, type, 1, 2, 3);
        }
        Check.due(x.byRule(5), 24);
        x.suppress(5, 0, true);
        Check.due(x.byRule(5), 22);
        x.suppress(5, 11, true);
        Check.due(x.byRule(5), 20);
        x.suppress(4, 3, true);
        Check.due(x.byRule(5), 20);
        x.suppress(5, 0, false);
        Check.due(x.byRule(5), 22);
        x.member(1, 6, 1, 1, 3);
        Check.due(x.byRule(5), 21);
        x.suppress(5, 6, true);
        Check.due(x.byRule(5), 20);
        Check.due(x.byRule(6), 0);
    }

    private static void noneAndMany() {
        Judge x = new Judge();
        for (int rule = 0; rule < 14; rule++) {
            Check.due(x.byRule(rule), 0);
        }
        for (int type = 0; type < 12; type++) {
            x.type(0, type, 0, 1, -1);
            x.type(1, type, 0, 1, -1);
            for (int key = 0; key < 8; key++) {
                x.member(0, type, 1, key, 3);
            }
        }
        Check.due(x.byRule(5), 96);
        Check.due(x.byRule(4), 0);
        x.copy();
        Check.due(x.byRule(5), 0);
    }

    private static void rules() {
        Check.range(0, 13, Check::nothing, (x, n) -> x.byRule(n));
        Check.range(0, 13, Rich::build, (x, n) -> x.byRule(n));
    }
}
