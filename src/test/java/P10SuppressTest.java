/** Promise 10: suppress. */
final class P10SuppressTest {
    public static void main(String[] args) {
        everyRuleAndType();
        refuses();
        weighsInAtOnce();
        Check.end();
    }

    private static void everyRuleAndType() {
        CompatibilityJudge x = new CompatibilityJudge();
        int number = 0;
        for (int rule = 0; rule < 14; rule++) {
            for (int type = 0; type < 12; type++) {
                Check.due(x.suppress(rule, type, false), 0);
                Check.due(x.suppress(rule, type, true), 1);
                Check.due(x.suppress(rule, type, true), 0);
                number++;
                Check.due(x.count(4), number);
            }
        }
        Check.due(x.suppress(13, 11, false), 1);
        Check.due(x.suppress(13, 11, false), 0);
        Check.due(x.count(4), 167);
    }

    private static void refuses() {
        CompatibilityJudge x = new CompatibilityJudge();
        Check.due(x.suppress(-1, 0, true), Check.REFUSED);
        Check.due(x.suppress(14, 0, true), Check.REFUSED);
        Check.due(x.suppress(0, -1, true), Check.REFUSED);
        Check.due(x.suppress(0, 12, true), Check.REFUSED);
        Check.due(x.suppress(14, 0, false), Check.REFUSED);
        Check.due(x.suppress(0, 12, false), Check.REFUSED);
        Check.due(x.suppress(0, 32, true), Check.REFUSED);
        Check.due(x.suppress(Integer.MIN_VALUE, 0, true), Check.REFUSED);
        Check.due(x.suppress(0, Integer.MAX_VALUE, true), Check.REFUSED);
        Check.due(x.count(4), 0);
    }

    private static void weighsInAtOnce() {
        CompatibilityJudge x = new CompatibilityJudge();
        x.type(0, 4, 0, 1, -1);
        x.type(0, 5, 0, 1, -1);
        Check.due(x.byRule(0), 2);
        Check.due(x.suppress(0, 4, true), 1);
        Check.due(x.byRule(0), 1);
        Check.due(x.finding(0, 4), 1);
        Check.due(x.finding(1, 4), 0);
        Check.due(x.verdict(), 3);
        Check.due(x.suppress(0, 5, true), 1);
        Check.due(x.verdict(), 0);
        Check.due(x.findings(), 2);
        Check.due(x.suppress(0, 4, false), 1);
        Check.due(x.verdict(), 3);
        Check.due(x.finding(0, 4), 0);
        Check.due(x.finding(1, 4), 1);
        x.remove(0, 5);
        x.type(0, 5, 0, 1, -1);
        Check.due(x.finding(1, 4), 1);
    }
}
