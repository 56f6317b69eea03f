/** Promise 10: suppress. */
final class P10SuppressTest {
    public static void main(String[] args) {
        Check.sentence("Suppresses the rule (0 .. 13)", P10SuppressTest::rules);
        Check.sentence("for the type (0 .. 11)", P10SuppressTest::types);
        Check.sentence("or no longer", P10SuppressTest::noLonger);
        Check.sentence("1 if that changes something, else 0", P10SuppressTest::changesSomething);
        Check.sentence("every rule for every type", P10SuppressTest::all);
        Check.sentence("A finding is SUPPRESSED from then on, and no longer then",
                P10SuppressTest::weighsInAtOnce);
        Check.sentence("the type need not be defined", P10SuppressTest::staysWithTheNumber);
        Check.end();
    }

    private static void rules() {
        for (int each = 0; each < 2; each++) {
            boolean on = each == 0;
            Check.range(0, 13, Rich::build, (x, n) -> x.suppress(n, 0, on));
            Check.range(0, 13, Check::nothing, (x, n) -> x.suppress(n, 11, on));
            Check.refused(Rich::build, x -> x.suppress(14, 12, on));
        }
        Judge x = new Judge();
        for (int rule = 0; rule < 14; rule++) {
            Check.due(x.suppress(rule, 6, true), 1);
            Check.due(x.count(4), rule + 1);
        }
    }

    private static void types() {
        for (int each = 0; each < 2; each++) {
            boolean on = each == 0;
            Check.range(0, 11, Rich::build, (x, n) -> x.suppress(0, n, on));
            Check.range(0, 11, Check::nothing, (x, n) -> x.suppress(13, n, on));
            for (int number : new int[] {31, 32, 33, 64, -32}) {
                Check.refused(Rich::build, x -> x.suppress(0, number, on));
            }
        }
        Judge x = new Judge();
        for (int type = 0; type < 12; type++) {
            x.type(0, type, 0, 1, -1);
        }
        for (int type = 0; type < 12; type++) {
            Check.due(x.suppress(0, type, true), 1);
            Check.due(x.byRule(0), 11 - type);
            for (int i = 0; i < 12; i++) {
                Check.due(x.finding(i, 4), i <= type ? 1 : 0);
            }
        }
    }

    private static void noLonger() {
        Judge x = new Judge();
        x.type(0, 4, 0, 1, -1);
        x.suppress(0, 4, true);
        x.suppress(0, 5, true);
        x.suppress(1, 4, true);
        Check.due(x.verdict(), 0);
        Check.due(x.suppress(0, 4, false), 1);
        Check.due(x.verdict(), 3);
        Check.due(x.count(4), 2);
        Check.due(x.suppress(0, 5, true), 0);
        Check.due(x.suppress(1, 4, true), 0);
    }

    private static void changesSomething() {
        Judge x = new Judge();
        Check.due(x.suppress(7, 3, false), 0);
        Check.due(x.suppress(7, 3, true), 1);
        Check.due(x.suppress(7, 3, true), 0);
        Check.due(x.count(4), 1);
        Check.due(x.suppress(7, 3, false), 1);
        Check.due(x.suppress(7, 3, false), 0);
        Check.due(x.count(4), 0);
        Check.due(x.suppress(7, 3, true), 1);
    }

    private static void all() {
        for (int half = 0; half < 2; half++) {
            Judge x = new Judge();
            for (int rule = 0; rule < 14; rule++) {
                for (int type = 0; type < 12; type++) {
                    Check.due(x.suppress(rule, type, true), 1);
                }
            }
            Check.due(x.count(4), 168);
            for (int rule = 0; rule < 14; rule++) {
                for (int type = 0; type < 12; type++) {
                    Check.due(x.suppress(rule, type, half == 0), half);
                }
            }
            Check.due(x.count(4), half == 0 ? 168 : 0);
        }
    }

    private static void weighsInAtOnce() {
        Judge x = new Judge();
        x.type(0, 4, 0, 1, -1);
        x.type(0, 5, 0, 1, -1);
        Check.due(x.byRule(0), 2);
        Check.due(x.suppress(0, 4, true), 1);
        Check.due(x.byRule(0), 1);
        Check.due(x.finding(0, 4), 1);
        Check.due(x.finding(1, 4), 0);
        Check.due(x.verdict(), 3);
        Check.due(x.suppress(0, 5, true), 1);
        Check.due(x.verdict(), 0);
        Check.due(x.findings(), 2);
        Check.due(x.suppress(0, 4, false), 1);
        Check.due(x.verdict(), 3);
        Check.due(x.finding(0, 4), 0);
        Check.due(x.finding(1, 4), 1);
    }

    private static void staysWithTheNumber() {
        Judge x = new Judge();
        Check.due(x.suppress(0, 5, true), 1);
        Check.due(x.count(4), 1);
        x.type(0, 5, 0, 1, -1);
        Check.due(x.finding(0, 4), 1);
        x.remove(0, 5);
        Check.due(x.suppress(0, 5, true), 0);
        x.type(0, 5, 0, 1, -1);
        Check.due(x.finding(0, 4), 1);
        Check.due(x.verdict(), 0);
    }
}
