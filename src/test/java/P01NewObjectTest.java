/** Promise 1: empty baselines, no suppressions. */
final class P01NewObjectTest {
    public static void main(String[] args) {
        CompatibilityJudge used = new CompatibilityJudge();
        used.type(0, 0, 0, 1, -1);
        used.member(0, 0, 1, 0, 3);
        used.type(1, 1, 1, 1, -1);
        used.suppress(0, 0, true);
        dueEmpty(new CompatibilityJudge());
        Check.dueFindings(used, "0 0 -1");
        Check.due(Check.REFUSED, -1);
        Check.end();
    }

    private static void dueEmpty(CompatibilityJudge x) {
        for (int what = 0; what < 5; what++) {
            Check.due(x.count(what), 0);
            Check.due(x.finding(0, what), Check.REFUSED);
        }
        for (int baseline = 0; baseline < 2; baseline++) {
            for (int type = 0; type < 12; type++) {
                Check.due(x.supertypes(baseline, type), 0);
                Check.due(x.look(baseline, type, 0, 0), 12);
                Check.due(x.look(baseline, type, 1, 0), 12);
                Check.due(x.look(baseline, type, 2, 0), 12);
                Check.due(x.remove(baseline, type), Check.REFUSED);
            }
        }
        for (int rule = 0; rule < 14; rule++) {
            Check.due(x.byRule(rule), 0);
            for (int type = 0; type < 12; type++) {
                Check.due(x.suppress(rule, type, false), 0);
            }
        }
        Check.due(x.findings(), 0);
        Check.due(x.verdict(), 0);
        Check.due(x.copy(), 0);
    }
}
