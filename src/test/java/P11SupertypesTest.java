/** Promise 11: supertypes. */
final class P11SupertypesTest {
    public static void main(String[] args) {
        Check.sentence("The set (bit s for type s) of the supertypes",
                P11SupertypesTest::bits);
        Check.sentence("of a type: through classes and interfaces",
                P11SupertypesTest::throughAll);
        Check.sentence("the empty set and the full one", P11SupertypesTest::emptyAndFull);
        Check.sentence("0 if it is not defined", P11SupertypesTest::notDefined);
        Check.sentence("of a type (0 .. 11)", P11SupertypesTest::types);
        Check.sentence("in the baseline", P11SupertypesTest::baselines);
        Check.sentence("A number that isn't defined in the baseline, or is of the wrong kind there",
                P11SupertypesTest::numbersThatDoNotCount);
        Check.end();
    }

    private static void bits() {
        for (int above = 0; above < 11; above++) {
            Judge x = new Judge();
            x.type(0, above, 0, 1, -1);
            x.type(0, 11, 0, 1, above);
            Check.due(x.supertypes(0, 11), 1 << above);
            Judge y = new Judge();
            y.type(0, above, 1, 1, -1);
            y.type(0, 11, 1, 1, -1);
            y.implement(0, 11, above);
            Check.due(y.supertypes(0, 11), 1 << above);
        }
    }

    private static void throughAll() {
        Judge x = new Judge();
        x.type(0, 0, 1, 0, -1);
        x.type(0, 1, 1, 0, -1);
        x.type(0, 2, 1, 0, -1);
        x.type(0, 4, 0, 0, -1);
        x.type(0, 8, 0, 0, 4);
        x.type(0, 11, 0, 0, 8);
        x.implement(0, 2, 0);
        x.implement(0, 4, 2);
        x.implement(0, 11, 1);
        Check.due(x.supertypes(0, 0), 0);
        Check.due(x.supertypes(0, 2), 1);
        Check.due(x.supertypes(0, 4), 5);
        Check.due(x.supertypes(0, 8), 16 + 5);
        Check.due(x.supertypes(0, 11), 256 + 16 + 5 + 2);
        x.remove(0, 2);
        Check.due(x.supertypes(0, 11), 256 + 16 + 2);
        x.remove(0, 8);
        Check.due(x.supertypes(0, 11), 2);
        x.type(0, 8, 0, 0, -1);
        Check.due(x.supertypes(0, 11), 256 + 2);
    }

    private static void emptyAndFull() {
        Judge x = new Judge();
        for (int type = 0; type < 12; type++) {
            x.type(0, type, 0, 0, type - 1);
            x.type(1, type, 1, 0, -1);
            x.implement(1, type, type - 1);
            Check.due(x.supertypes(0, type), (1 << type) - 1);
            Check.due(x.supertypes(1, type), (1 << type) - 1);
        }
        Check.due(x.supertypes(0, 11), 2047);
        x.remove(1, 10);
        Check.due(x.supertypes(1, 11), 0);
        Check.due(x.supertypes(0, 11), 2047);
    }

    private static void notDefined() {
        Judge x = new Judge();
        for (int type = 0; type < 12; type++) {
            Check.due(x.supertypes(0, type), 0);
            Check.due(x.supertypes(1, type), 0);
        }
        x.type(0, 3, 0, 1, -1);
        x.type(0, 4, 0, 1, 3);
        Check.due(x.supertypes(0, 4), 8);
        x.remove(0, 4);
        Check.due(x.supertypes(0, 4), 0);
        Check.due(x.supertypes(0, 5), 0);
    }

    private static void types() {
        Check.range(0, 11, Check::nothing, (x, n) -> x.supertypes(0, n));
        Check.range(0, 11, Rich::build, (x, n) -> x.supertypes(0, n));
        Check.range(0, 11, Rich::build, (x, n) -> x.supertypes(1, n));
    }

    private static void baselines() {
        Check.range(0, 1, Rich::build, (x, n) -> x.supertypes(n, 3));
        Judge x = new Judge();
        x.type(0, 3, 0, 1, -1);
        x.type(0, 4, 0, 1, 3);
        x.type(1, 2, 0, 1, -1);
        x.type(1, 4, 0, 1, 2);
        Check.due(x.supertypes(0, 4), 8);
        Check.due(x.supertypes(1, 4), 4);
    }

    private static void numbersThatDoNotCount() {
        Judge x = new Judge();
        x.type(1, 5, 0, 0, 1);
        x.implement(1, 5, 2);
        Check.due(x.supertypes(1, 5), 0);
        x.type(1, 1, 1, 0, -1);
        x.type(1, 2, 0, 0, -1);
        Check.due(x.supertypes(1, 5), 0);
        x.remove(1, 1);
        x.remove(1, 2);
        x.type(1, 1, 0, 0, -1);
        Check.due(x.supertypes(1, 5), 2);
        x.type(1, 2, 1, 0, -1);
        Check.due(x.supertypes(1, 5), 6);
        x.type(1, 9, 0, 0, 5);
        Check.due(x.supertypes(1, 9), 32 + 6);
        x.remove(1, 5);
        Check.due(x.supertypes(1, 9), 0);
        x.type(1, 5, 1, 0, -1);
        Check.due(x.supertypes(1, 9), 0);
        x.implement(1, 9, 5);
        x.implement(1, 5, 2);
        Check.due(x.supertypes(1, 9), 32 + 4);
    }
}
