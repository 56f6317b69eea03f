/** Promise 2: type. */
final class P02TypeTest {
    public static void main(String[] args) {
        Check.sentence("Defines the type (0 .. 11)", P02TypeTest::types);
        Check.sentence("in the baseline (0, 1)", P02TypeTest::baselines);
        Check.sentence("kind 0 or 1", P02TypeTest::kinds);
        Check.sentence("flags 0 .. 7", P02TypeTest::flags);
        Check.sentence("1 PUBLIC, 2 ABSTRACT, 4 FINAL", P02TypeTest::meaningOfFlags);
        Check.sentence("parent -1 .. 11: the superclass or -1", P02TypeTest::parents);
        Check.sentence("REFUSED: it is defined there", P02TypeTest::definedThere);
        Check.sentence("REFUSED: parent not lower than the type", P02TypeTest::parentNotLower);
        Check.sentence("REFUSED: an interface with ABSTRACT", () -> badInterface(2, -1));
        Check.sentence("REFUSED: an interface with FINAL", () -> badInterface(4, -1));
        Check.sentence("REFUSED: an interface with a parent", P02TypeTest::interfaceWithParent);
        Check.sentence("REFUSED: both ABSTRACT and FINAL", P02TypeTest::abstractAndFinal);
        Check.sentence("Else 1", P02TypeTest::allGoodShapes);
        Check.sentence("Else 1: whatever the parent is", P02TypeTest::anyParent);
        Check.sentence("Defines the type: it has nothing at first", P02TypeTest::nothingAtFirst);
        Check.end();
    }

    private static void types() {
        Check.range(0, 11, Check::nothing, (x, n) -> x.type(0, n, 0, 1, -1));
        Check.range(0, 11, Check::nothing, (x, n) -> x.type(1, n, 1, 0, -1));
        Judge x = new Judge();
        for (int type = 0; type < 12; type++) {
            Check.due(x.type(0, type, 0, 1, -1), 1);
            Check.due(x.count(0), type + 1);
            Check.due(x.findings(), type + 1);
            Check.due(x.finding(type, 1), type);
        }
        Check.refused(x.type(0, 12, 0, 1, -1));
        Check.due(x.count(0), 12);
    }

    private static void baselines() {
        Check.range(0, 1, Rich::build, (x, n) -> x.type(n, 4, 0, 1, -1));
        for (int baseline = 0; baseline < 2; baseline++) {
            Judge x = new Judge();
            Check.due(x.type(baseline, 7, 0, 1, -1), 1);
            Check.due(x.count(baseline), 1);
            Check.due(x.count(1 - baseline), 0);
            Check.refused(x.member(1 - baseline, 7, 1, 1, 3));
            Check.due(x.member(baseline, 7, 1, 1, 3), 0);
        }
    }

    private static void kinds() {
        Check.range(0, 1, Rich::build, (x, n) -> x.type(0, 4, n, 1, -1));
        Judge x = new Judge();
        x.type(0, 3, 0, 1, -1);
        x.type(0, 4, 1, 1, -1);
        x.type(0, 5, 0, 1, 3);
        x.type(0, 6, 0, 1, 4);
        x.type(0, 7, 1, 1, -1);
        x.implement(0, 7, 3);
        x.type(0, 8, 1, 1, -1);
        x.implement(0, 8, 4);
        Check.due(x.supertypes(0, 5), 8);
        Check.due(x.supertypes(0, 6), 0);
        Check.due(x.supertypes(0, 7), 0);
        Check.due(x.supertypes(0, 8), 16);
    }

    private static void flags() {
        Check.range(0, 5, Rich::build, (x, n) -> x.type(0, 4, 0, n, -1));
        Check.refusedOutside(0, 7, Rich::build, (x, n) -> x.type(0, 4, 0, n, -1));
        Check.refusedOutside(0, 7, Rich::build, (x, n) -> x.type(1, 4, 1, n, -1));
        Check.refused(Rich::build, x -> x.type(0, 4, 0, 9, -1));
        Check.refused(Rich::build, x -> x.type(0, 4, 0, 16, -1));
    }

    private static void meaningOfFlags() {
        for (int flags = 0; flags < 6; flags++) {
            Judge x = new Judge();
            x.type(0, 4, 0, flags, -1);
            Check.due(x.findings(), flags % 2);
            x.type(0, 5, 0, 1, -1);
            x.type(1, 5, 0, flags, -1);
            Check.due(x.byRule(0), 1);
            Check.due(x.byRule(2), flags == 3 ? 1 : 0);
            Check.due(x.byRule(3), flags == 5 ? 1 : 0);
        }
    }

    private static void parents() {
        Check.range(-1, 10, Check::nothing, (x, n) -> x.type(0, 11, 0, 1, n));
        Check.refusedOutside(-1, 11, Rich::build, (x, n) -> x.type(0, 10, 0, 1, n));
        Check.refusedOutside(-1, 11, Rich::build, (x, n) -> x.type(1, 4, 0, 1, n));
        Check.refused(Rich::build, x -> x.type(0, 10, 0, 1, 11));
        for (int parent = -1; parent < 11; parent++) {
            Judge x = new Judge();
            for (int type = 0; type < 11; type++) {
                x.type(0, type, 0, 1, -1);
            }
            Check.due(x.type(0, 11, 0, 1, parent), 1);
            Check.due(x.supertypes(0, 11), parent < 0 ? 0 : 1 << parent);
        }
    }

    private static void definedThere() {
        for (int number = 0; number < 12; number++) {
            int type = number;
            for (int kind = 0; kind < 2; kind++) {
                int other = kind;
                Check.refused(x -> x.type(0, type, 0, 1, -1), x -> x.type(0, type, other, 1, -1));
                Check.refused(x -> x.type(1, type, 1, 0, -1), x -> x.type(1, type, other, 0, -1));
            }
        }
        Check.refused(Rich::build, x -> x.type(0, 3, 0, 1, 2));
        Check.refused(Rich::build, x -> x.type(0, 3, 0, 5, 1));
        Check.refused(Rich::build, x -> x.type(1, 0, 1, 0, -1));
        Check.refused(Rich::build, x -> x.type(1, 11, 0, 3, -1));
        Judge x = new Judge();
        x.type(0, 4, 0, 1, -1);
        Check.due(x.type(1, 4, 0, 1, -1), 1);
        Check.due(x.remove(0, 4), 1);
        Check.due(x.type(0, 4, 1, 1, -1), 1);
        Check.refused(x.type(0, 4, 1, 1, -1));
        x.remove(1, 4);
        x.swap();
        Check.refused(x.type(1, 4, 0, 1, -1));
        Check.due(x.type(0, 4, 0, 1, -1), 1);
        x.type(0, 5, 0, 1, -1);
        x.copy();
        Check.refused(x.type(1, 5, 0, 1, -1));
    }

    private static void parentNotLower() {
        for (int number = 0; number < 12; number++) {
            int type = number;
            Judge x = new Judge();
            Check.due(x.type(0, type, 0, 1, type - 1), 1);
            Check.refused(Check::nothing, y -> y.type(0, type, 0, 1, type));
            Check.refused(Check::nothing, y -> y.type(1, type, 0, 1, Math.min(11, type + 1)));
            Check.refused(Check::nothing, y -> y.type(1, type, 0, 1, 11));
        }
        Check.refused(Rich::build, x -> x.type(0, 4, 0, 1, 4));
        Check.refused(Rich::build, x -> x.type(0, 4, 0, 1, 5));
    }

    /** The flags with PUBLIC and without; the same without the fault is taken. */
    private static void badInterface(int flags, int parent) {
        Check.refused(Rich::build, x -> x.type(0, 4, 1, flags, parent));
        Check.refused(Rich::build, x -> x.type(0, 4, 1, flags + 1, parent));
        Check.due(new Judge().type(0, 4, 0, flags, parent), 1);
        Check.due(new Judge().type(0, 4, 0, flags + 1, parent), 1);
        Check.due(new Judge().type(0, 4, 1, 0, -1), 1);
        Check.due(new Judge().type(0, 4, 1, 1, -1), 1);
    }

    private static void interfaceWithParent() {
        badInterface(0, 0);
        badInterface(0, 3);
        Check.refused(Check::nothing, x -> x.type(1, 11, 1, 1, 10));
        Check.refused(Check::nothing, x -> x.type(1, 1, 1, 0, 0));
    }

    private static void abstractAndFinal() {
        for (int kind = 0; kind < 2; kind++) {
            int both = kind;
            Check.refused(Rich::build, x -> x.type(0, 4, both, 6, -1));
            Check.refused(Rich::build, x -> x.type(1, 4, both, 7, -1));
        }
        for (int flags = 2; flags < 6; flags++) {
            Check.due(new Judge().type(0, 4, 0, flags, -1), 1);
        }
    }

    private static void allGoodShapes() {
        for (int flags = 0; flags < 6; flags++) {
            for (int baseline = 0; baseline < 2; baseline++) {
                Check.due(new Judge().type(baseline, 0, 0, flags, -1), 1);
                Check.due(new Judge().type(baseline, 11, 0, flags, -1), 1);
                Check.due(new Judge().type(baseline, 11, 0, flags, 10), 1);
                Check.due(new Judge().type(baseline, 11, 0, flags, 0), 1);
                Check.due(new Judge().type(baseline, 11, 1, flags % 2, -1), 1);
            }
        }
    }

    private static void anyParent() {
        Check.due(new Judge().type(0, 6, 0, 1, 3), 1);
        Judge x = new Judge();
        x.type(0, 3, 1, 1, -1);
        Check.due(x.type(0, 6, 0, 1, 3), 1);
        Check.due(x.supertypes(0, 6), 0);
        for (int flags = 0; flags < 6; flags++) {
            Judge y = new Judge();
            y.type(0, 3, 0, flags, -1);
            Check.due(y.type(0, 6, 0, 1, 3), 1);
            Check.due(y.supertypes(0, 6), 8);
        }
    }

    private static void nothingAtFirst() {
        Judge x = new Judge();
        x.type(0, 2, 0, 1, -1);
        x.type(0, 1, 1, 1, -1);
        x.type(0, 6, 0, 1, 2);
        x.implement(0, 6, 1);
        x.member(0, 6, 0, 5, 3);
        x.constant(0, 6, 0, 5);
        x.remove(0, 6);
        x.type(0, 6, 0, 1, -1);
        Check.due(x.supertypes(0, 6), 0);
        Check.due(x.look(0, 6, 0, 5), 12);
        Check.due(x.count(2), 0);
        Check.refused(x.drop(0, 6, 0));
        Check.due(x.member(0, 6, 0, 5, 3), 0);
        Check.due(x.constant(0, 6, 0, 5), 0);
        Check.due(x.implement(0, 6, 1), 1);
    }
}
