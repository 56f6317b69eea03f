/** Promise 17: count. */
final class P17CountTest {
    public static void main(String[] args) {
        Check.sentence("Types defined in OLD (0)", () -> typesOf(0));
        Check.sentence("in NEW (1)", () -> typesOf(1));
        Check.sentence("members of all types in OLD (2)", () -> membersOf(0));
        Check.sentence("in NEW (3)", () -> membersOf(1));
        Check.sentence("suppressions (4)", P17CountTest::suppressions);
        Check.sentence("else REFUSED", P17CountTest::anotherWhat);
        Check.sentence("counts are of the state as it is", P17CountTest::asItIs);
        Check.end();
    }

    private static void counts(Judge x, int... due) {
        for (int what = 0; what < 5; what++) {
            Check.due(x.count(what), due[what]);
        }
    }

    private static void typesOf(int baseline) {
        Judge x = new Judge();
        for (int type = 0; type < 12; type++) {
            Check.due(x.count(baseline), type);
            x.type(baseline, type, type % 2, 0, -1);
            Check.due(x.count(1 - baseline), 0);
        }
        Check.due(x.count(baseline), 12);
        x.type(baseline, 5, 0, 1, -1);
        x.type(1 - baseline, 5, 0, 1, -1);
        Check.due(x.count(baseline), 12);
        for (int type = 0; type < 12; type++) {
            x.remove(baseline, type);
            Check.due(x.count(baseline), 11 - type);
        }
        Check.due(x.count(1 - baseline), 1);
    }

    private static void membersOf(int baseline) {
        Judge x = new Judge();
        for (int type = 0; type < 12; type++) {
            x.type(baseline, type, 0, 0, type - 1);
            for (int key = 0; key < 8; key++) {
                Check.due(x.count(2 + baseline), 8 * type + key);
                x.member(baseline, type, key % 3, key, 0);
            }
            Check.due(x.count(3 - baseline), 0);
        }
        Check.due(x.count(2 + baseline), 96);
        x.drop(baseline, 0, 0);
        Check.due(x.count(2 + baseline), 95);
        x.remove(baseline, 11);
        Check.due(x.count(2 + baseline), 87);
    }

    private static void suppressions() {
        Judge x = new Judge();
        for (int rule = 0; rule < 14; rule++) {
            for (int type = 0; type < 12; type++) {
                x.suppress(rule, type, true);
                Check.due(x.count(4), 12 * rule + type + 1);
            }
        }
        x.suppress(0, 0, true);
        Check.due(x.count(4), 168);
        x.suppress(13, 11, false);
        Check.due(x.count(4), 167);
        x.suppress(13, 11, false);
        Check.due(x.count(4), 167);
    }

    private static void anotherWhat() {
        Check.range(0, 4, Check::nothing, (x, n) -> x.count(n));
        Check.range(0, 4, Rich::build, (x, n) -> x.count(n));
    }

    private static void asItIs() {
        Judge x = new Judge();
        counts(x, 0, 0, 0, 0, 0);
        Rich.build(x);
        counts(x, 8, 8, 15, 14, 3);
        x.swap();
        counts(x, 8, 8, 14, 15, 3);
        x.remove(0, 9);
        counts(x, 7, 8, 14, 15, 3);
        x.copy();
        counts(x, 7, 7, 14, 14, 3);
        x.type(1, 9, 0, 1, -1);
        x.member(1, 9, 1, 1, 3);
        x.suppress(9, 3, false);
        counts(x, 7, 8, 14, 15, 2);
    }
}
