/** Promise 12: look; the way of looking up has a test of its own. */
final class P12LookTest {
    private static final int[] HIGHEST = {63, 511, 7};

    public static void main(String[] args) {
        Check.sentence("The number of the type in which looking up finds the member",
                P12LookTest::tellsTheType);
        Check.sentence("12 if there is none", P12LookTest::none);
        Check.sentence("12 if the type is not defined", P12LookTest::notDefined);
        Check.sentence("in the baseline", P12LookTest::baselines);
        Check.sentence("REFUSED for numbers out of range: baseline",
                () -> Check.range(0, 1, Rich::build, (x, n) -> x.look(n, 3, 0, 1)));
        Check.sentence("REFUSED for numbers out of range: type", P12LookTest::types);
        Check.sentence("of the kind (0 .. 2)", P12LookTest::kinds);
        Check.sentence("(a key out of the kind's range too)", P12LookTest::keys);
        Check.end();
    }

    private static void tellsTheType() {
        for (int type = 0; type < 12; type++) {
            for (int kind = 0; kind < 3; kind++) {
                Judge x = new Judge();
                x.type(0, type, 0, 1, -1);
                x.member(0, type, kind, HIGHEST[kind], 0);
                Check.due(x.look(0, type, kind, HIGHEST[kind]), type);
                for (int sub = type + 1; sub < 12; sub++) {
                    x.type(0, sub, 0, 1, type);
                    Check.due(x.look(0, sub, kind, HIGHEST[kind]), kind == 2 ? 12 : type);
                }
            }
        }
    }

    private static void none() {
        Judge x = new Judge();
        x.type(0, 3, 0, 1, -1);
        x.type(0, 4, 0, 1, 3);
        for (int kind = 0; kind < 3; kind++) {
            Check.due(x.look(0, 4, kind, 0), 12);
            Check.due(x.look(0, 4, kind, HIGHEST[kind]), 12);
            x.member(0, 4, kind, 5, 3);
            Check.due(x.look(0, 4, kind, 5), 4);
            Check.due(x.look(0, 3, kind, 5), 12);
            Check.due(x.look(0, 4, kind, 4), 12);
            Check.due(x.look(0, 4, kind, 6), 12);
        }
        for (int kind = 0; kind < 3; kind++) {
            x.drop(0, 4, 0);
            Check.due(x.look(0, 4, kind, 5), 12);
        }
    }

    private static void notDefined() {
        Judge x = new Judge();
        for (int type = 0; type < 12; type++) {
            for (int kind = 0; kind < 3; kind++) {
                Check.due(x.look(0, type, kind, HIGHEST[kind]), 12);
                Check.due(x.look(1, type, kind, 0), 12);
            }
        }
        x.type(0, 3, 0, 1, -1);
        x.type(0, 4, 0, 1, 3);
        x.member(0, 3, 1, 5, 3);
        x.member(0, 4, 0, 5, 3);
        x.member(0, 4, 2, 5, 3);
        x.remove(0, 4);
        for (int kind = 0; kind < 3; kind++) {
            Check.due(x.look(0, 4, kind, 5), 12);
        }
        Check.due(x.look(0, 3, 1, 5), 3);
    }

    private static void baselines() {
        Judge x = new Judge();
        x.type(0, 3, 0, 1, -1);
        x.type(0, 4, 0, 1, 3);
        x.member(0, 3, 1, 5, 3);
        x.type(1, 4, 0, 1, -1);
        Check.due(x.look(0, 4, 1, 5), 3);
        Check.due(x.look(1, 4, 1, 5), 12);
        x.member(1, 4, 1, 5, 3);
        Check.due(x.look(0, 4, 1, 5), 3);
        Check.due(x.look(1, 4, 1, 5), 4);
    }

    private static void types() {
        for (int each = 0; each < 3; each++) {
            int kind = each;
            Check.range(0, 11, Rich::build, (x, n) -> x.look(0, n, kind, 1));
            Check.range(0, 11, Check::nothing, (x, n) -> x.look(1, n, kind, 1));
        }
    }

    private static void kinds() {
        Check.range(0, 2, Rich::build, (x, n) -> x.look(0, 3, n, 1));
        Check.range(0, 2, Check::nothing, (x, n) -> x.look(1, 3, n, 0));
    }

    private static void keys() {
        for (int each = 0; each < 3; each++) {
            int kind = each;
            Check.range(0, HIGHEST[kind], Rich::build, (x, n) -> x.look(0, 3, kind, n));
            Check.range(0, HIGHEST[kind], Check::nothing, (x, n) -> x.look(1, 3, kind, n));
        }
        Check.refused(Rich::build, x -> x.look(0, 3, 0, 511));
        Check.refused(Rich::build, x -> x.look(0, 3, 2, 63));
    }
}
