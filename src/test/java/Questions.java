import java.util.List;

/**
 * What can be asked of a state, in parts that fit into the calls of one object. Most parts change
 * the object on the way, as a state holds things that no plain question shows.
 */
final class Questions {
    static final List<Check.Calls> PARTS = List.of(
            Questions::view,
            Questions::viewFromTheOtherSide,
            Questions::looks,
            x -> members(x, 0),
            x -> members(x, 1),
            x -> membersLeft(x, 0),
            x -> membersLeft(x, 1),
            x -> numbersThatDoNotCount(x, 0),
            x -> numbersThatDoNotCount(x, 1),
            Questions::interfaces,
            Questions::suppressions);

    private static final int[][] KEYS = {{0, 1, 63}, {0, 1, 511}, {0, 7}};

    private Questions() {
    }

    /** Changes nothing, and fits twice into the calls of one object. */
    static void view(Judge x) {
        for (int what = 0; what < 5; what++) {
            x.count(what);
        }
        for (int baseline = 0; baseline < 2; baseline++) {
            for (int type = 0; type < 12; type++) {
                x.supertypes(baseline, type);
                x.look(baseline, type, 0, 0);
                x.look(baseline, type, 1, 1);
                x.look(baseline, type, 2, 7);
            }
        }
        findings(x);
    }

    private static void findings(Judge x) {
        int number = Math.min(x.findings(), 15);
        for (int i = 0; i < number; i++) {
            for (int what = 0; what < 5; what++) {
                x.finding(i, what);
            }
        }
        for (int rule = 0; rule < 14; rule++) {
            x.byRule(rule);
        }
        x.verdict();
    }

    /** A flag that is lost is seen from one side, one that is new from the other. */
    private static void viewFromTheOtherSide(Judge x) {
        x.swap();
        view(x);
    }

    private static void looks(Judge x) {
        for (int baseline = 0; baseline < 2; baseline++) {
            for (int type = 0; type < 12; type++) {
                for (int kind = 0; kind < 3; kind++) {
                    for (int key : KEYS[kind]) {
                        x.look(baseline, type, kind, key);
                    }
                }
            }
        }
    }

    /** Which members are fields, which of these have a constant, and how many there are. */
    private static void members(Judge x, int baseline) {
        for (int type = 0; type < 12; type++) {
            for (int place = 0; place < 8; place++) {
                x.constant(baseline, type, place, 0);
            }
        }
        for (int type = 0; type < 12; type++) {
            for (int left = 8; left > 0; left = x.drop(baseline, type, 0)) {
                x.count(2 + baseline);
            }
        }
    }

    /** Which places have open members: those that types without members have lost. */
    private static void membersLeft(Judge x, int baseline) {
        if (baseline == 1) {
            x.swap();
        }
        for (int type = 0; type < 12; type++) {
            x.remove(1, type);
            x.type(1, type, 0, 1, -1);
        }
        int number = Math.min(x.findings(), 40);
        for (int i = 0; i < number; i++) {
            x.finding(i, 0);
            x.finding(i, 1);
            x.finding(i, 2);
        }
    }

    /** Superclasses and superinterfaces show when what they name is defined. */
    private static void numbersThatDoNotCount(Judge x, int baseline) {
        for (int kind = 0; kind < 2; kind++) {
            for (int type = 0; type < 12; type++) {
                if (x.type(baseline, type, kind, 1, -1) == 1) {
                    for (int sub = type; sub < 12; sub++) {
                        x.supertypes(baseline, sub);
                    }
                    x.remove(baseline, type);
                }
            }
        }
    }

    private static void interfaces(Judge x) {
        for (int baseline = 0; baseline < 2; baseline++) {
            for (int type = 1; type < 12; type++) {
                for (int other = 0; other < type; other++) {
                    x.implement(baseline, type, other);
                }
            }
        }
    }

    private static void suppressions(Judge x) {
        for (int rule = 0; rule < 14; rule++) {
            for (int type = 0; type < 12; type++) {
                x.suppress(rule, type, true);
            }
        }
    }
}
