/** Promise 1: a new object. */
final class P01NewObjectTest {
    public static void main(String[] args) {
        Check.sentence("Empty baselines: no type is defined", P01NewObjectTest::noTypes);
        Check.sentence("Empty baselines: nothing is found in them",
                P01NewObjectTest::nothingIsFound);
        Check.sentence("no suppressions", P01NewObjectTest::noSuppressions);
        Check.sentence("Empty baselines: no findings", P01NewObjectTest::noFindings);
        Check.sentence("A new object has nothing of another", P01NewObjectTest::besideAnother);
        Check.sentence("REFUSED = -1", () -> Check.due(CompatibilityJudge.REFUSED, -1));
        Check.end();
    }

    private static void noTypes() {
        Judge x = new Judge();
        for (int what = 0; what < 4; what++) {
            Check.due(x.count(what), 0);
        }
        for (int baseline = 0; baseline < 2; baseline++) {
            for (int type = 0; type < 12; type++) {
                Check.refused(x.remove(baseline, type));
                Check.refused(x.drop(baseline, type, 0));
                Check.refused(x.constant(baseline, type, 0, 0));
                Check.refused(x.member(baseline, type, 1, 0, 3));
                Check.refused(x.implement(baseline, type, 0));
            }
        }
        Check.due(x.copy(), 0);
        x.swap();
        Check.due(x.count(0), 0);
        Check.due(x.copy(), 0);
    }

    private static void nothingIsFound() {
        for (int baseline = 0; baseline < 2; baseline++) {
            Judge x = new Judge();
            for (int type = 0; type < 12; type++) {
                Check.due(x.supertypes(baseline, type), 0);
                for (int kind = 0; kind < 3; kind++) {
                    Check.due(x.look(baseline, type, kind, 0), 12);
                    Check.due(x.look(baseline, type, kind, 7), 12);
                }
                Check.due(x.look(baseline, type, 0, 63), 12);
                Check.due(x.look(baseline, type, 1, 511), 12);
            }
        }
    }

    private static void noSuppressions() {
        Judge x = new Judge();
        Check.due(x.count(4), 0);
        for (int rule = 0; rule < 14; rule++) {
            for (int type = 0; type < 12; type++) {
                Check.due(x.suppress(rule, type, false), 0);
                Check.due(x.suppress(rule, type, true), 1);
            }
        }
    }

    private static void noFindings() {
        Judge x = new Judge();
        Check.due(x.findings(), 0);
        Check.due(x.verdict(), 0);
        for (int rule = 0; rule < 14; rule++) {
            Check.due(x.byRule(rule), 0);
        }
        for (int what = 0; what < 5; what++) {
            Check.refused(x.finding(0, what));
        }
        for (int first = 0; first < 3; first++) {
            Judge y = new Judge();
            Check.due(first == 0 ? y.verdict() : first == 1 ? y.byRule(0) : y.findings(), 0);
        }
    }

    private static void besideAnother() {
        Judge used = new Judge();
        Rich.build(used);
        Judge x = new Judge();
        for (int what = 0; what < 5; what++) {
            Check.due(x.count(what), 0);
        }
        x.type(0, 4, 0, 1, -1);
        x.suppress(3, 3, true);
        Check.findings(x, "0 4 -1");
        Check.findings(used, "5 3 2", "9 3 1", "0 5 -1");
        Check.due(used.count(0), 8);
        Check.due(used.count(4), 3);
    }
}
