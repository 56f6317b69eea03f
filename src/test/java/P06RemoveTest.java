/** Promise 6: remove. */
final class P06RemoveTest {
    public static void main(String[] args) {
        Check.sentence("Takes the type out of the baseline: 1", P06RemoveTest::takesOut);
        Check.sentence("it was not defined: REFUSED", P06RemoveTest::notDefined);
        Check.sentence("numbers out of range are refused", P06RemoveTest::outOfRange);
        Check.sentence("what the type had goes with it", P06RemoveTest::nothingStays);
        Check.sentence("other types keep its number", P06RemoveTest::othersKeepItsNumber);
        Check.sentence("from the full state to the empty one", P06RemoveTest::fullToEmpty);
        Check.end();
    }

    private static void takesOut() {
        Judge x = new Judge();
        Rich.build(x);
        Check.due(x.count(0), 8);
        Check.due(x.remove(0, 3), 1);
        Check.due(x.count(0), 7);
        Check.due(x.count(1), 8);
        Check.due(x.count(2), 12);
        Check.due(x.count(3), 14);
        Check.due(x.supertypes(0, 3), 0);
        Check.due(x.look(0, 3, 0, 1), 12);
        Check.due(x.look(1, 3, 0, 1), 3);
        Check.due(x.supertypes(1, 3), 7);
        Check.findings(x, "0 5 -1");
    }

    private static void notDefined() {
        for (int number = 0; number < 12; number++) {
            int type = number;
            Check.refused(Check::nothing, x -> x.remove(0, type));
            Check.refused(Check::nothing, x -> x.remove(1, type));
        }
        Check.refused(Rich::build, x -> x.remove(0, 4));
        Check.refused(Rich::build, x -> x.remove(0, 9));
        Check.refused(Rich::build, x -> x.remove(1, 5));
        Judge x = new Judge();
        x.type(0, 5, 0, 1, -1);
        Check.refused(x.remove(1, 5));
        Check.due(x.remove(0, 5), 1);
        Check.refused(x.remove(0, 5));
        Check.due(x.type(0, 5, 0, 1, -1), 1);
        Check.due(x.remove(0, 5), 1);
    }

    private static void outOfRange() {
        Check.range(0, 1, Rich::build, (x, n) -> x.remove(n, 3));
        Check.range(0, 11, Rich::build, (x, n) -> x.remove(0, n));
        Check.range(0, 11, Rich::build, (x, n) -> x.remove(1, n));
    }

    private static void nothingStays() {
        Judge x = new Judge();
        x.type(0, 0, 1, 1, -1);
        x.type(0, 2, 0, 1, -1);
        x.type(0, 3, 0, 3, 2);
        x.implement(0, 3, 0);
        x.member(0, 3, 1, 1, 3);
        x.member(0, 3, 0, 1, 3);
        x.remove(0, 3);
        Check.refused(x.member(0, 3, 1, 1, 3));
        Check.refused(x.implement(0, 3, 1));
        Check.refused(x.constant(0, 3, 1, 1));
        Check.refused(x.drop(0, 3, 0));
        Check.due(x.type(0, 3, 1, 0, -1), 1);
        Check.due(x.supertypes(0, 3), 0);
        Check.due(x.count(2), 0);
        Check.due(x.member(0, 3, 1, 1, 3), 0);
        Check.due(x.implement(0, 3, 0), 1);
        Check.findings(x, "0 0 -1", "0 2 -1");
    }

    private static void othersKeepItsNumber() {
        Judge x = new Judge();
        x.type(0, 1, 0, 1, -1);
        x.member(0, 1, 1, 9, 3);
        x.type(0, 2, 0, 1, 1);
        x.type(0, 3, 0, 1, 2);
        x.type(0, 0, 1, 1, -1);
        x.implement(0, 3, 0);
        Check.due(x.supertypes(0, 3), 7);
        Check.due(x.look(0, 3, 1, 9), 1);
        x.remove(0, 2);
        Check.due(x.supertypes(0, 3), 1);
        Check.due(x.look(0, 3, 1, 9), 12);
        x.remove(0, 0);
        Check.due(x.supertypes(0, 3), 0);
        x.type(0, 2, 0, 0, 1);
        x.type(0, 0, 1, 0, -1);
        Check.due(x.supertypes(0, 3), 7);
        Check.due(x.look(0, 3, 1, 9), 1);
        Check.refused(x.implement(0, 3, 0));
    }

    private static void fullToEmpty() {
        Judge x = new Judge();
        for (int type = 0; type < 12; type++) {
            x.type(0, type, 0, 1, type - 1);
            for (int key = 0; key < 8; key++) {
                x.member(0, type, 1, key, 3);
            }
        }
        x.copy();
        for (int type = 0; type < 12; type++) {
            Check.due(x.remove(0, type), 1);
            Check.due(x.count(0), 11 - type);
            Check.due(x.count(2), 8 * (11 - type));
        }
        Check.findings(x);
        for (int type = 11; type >= 0; type--) {
            Check.due(x.remove(1, type), 1);
            Check.due(x.count(1), type);
            Check.due(x.count(3), 8 * type);
        }
        Check.due(x.copy(), 0);
    }
}
