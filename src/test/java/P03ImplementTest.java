/** Promise 3: implement. */
final class P03ImplementTest {
    public static void main(String[] args) {
        Check.sentence("Adds a direct superinterface to the type", P03ImplementTest::adds);
        Check.sentence("0 .. 11", P03ImplementTest::numbers);
        Check.sentence("lower than the type", P03ImplementTest::lower);
        Check.sentence("answers how many it has then", P03ImplementTest::howMany);
        Check.sentence("REFUSED: the type is not defined", P03ImplementTest::notDefined);
        Check.sentence("REFUSED: has 3", P03ImplementTest::hasThree);
        Check.sentence("REFUSED: has this one", P03ImplementTest::hasThisOne);
        Check.sentence("has this one: as a direct superinterface",
                P03ImplementTest::hasItThroughAnother);
        Check.sentence("A number that isn't defined in the baseline, or is of the wrong kind there "
                + "is one of the 3 all the same", P03ImplementTest::numbersThatDoNotCount);
        Check.end();
    }

    /** Each interface has the field 0, so that looking it up tells which comes first. */
    private static void interfaces(Judge x) {
        for (int type = 0; type < 4; type++) {
            x.type(0, type, 1, 1, -1);
            x.member(0, type, 0, 0, 15);
        }
        x.type(0, 11, 0, 1, -1);
    }

    private static void adds() {
        for (int other = 0; other < 4; other++) {
            Judge x = new Judge();
            interfaces(x);
            x.implement(0, 11, other);
            Check.due(x.supertypes(0, 11), 1 << other);
            Check.due(x.supertypes(1, 11), 0);
            x.copy();
            Check.due(x.supertypes(1, 11), 1 << other);
        }
        Judge x = new Judge();
        interfaces(x);
        x.implement(0, 3, 0);
        x.implement(0, 11, 3);
        Check.due(x.supertypes(0, 3), 1);
        Check.due(x.supertypes(0, 11), 9);
    }

    private static void numbers() {
        Check.range(0, 10, P03ImplementTest::interfaces, (x, n) -> x.implement(0, 11, n));
        Check.refusedOutside(0, 11, P03ImplementTest::interfaces,
                (x, n) -> x.implement(0, 11, n));
        Check.refusedOutside(0, 11, Rich::build, (x, n) -> x.implement(1, 9, n));
        Check.refusedOutside(0, 11, Rich::build, (x, n) -> x.implement(0, n, 0));
        Check.range(0, 1, Rich::build, (x, n) -> x.implement(n, 11, 7));
    }

    private static void lower() {
        for (int number = 0; number < 12; number++) {
            int type = number;
            Check.Calls before = x -> {
                x.type(0, type, 1, 1, -1);
                x.type(1, type, 0, 1, -1);
            };
            if (type > 0) {
                Judge x = new Judge();
                before.on(x);
                Check.due(x.implement(0, type, type - 1), 1);
                Check.due(x.implement(1, type, 0), 1);
            }
            Check.refused(before, x -> x.implement(0, type, type));
            Check.refused(before, x -> x.implement(1, type, type));
            Check.refused(before, x -> x.implement(0, type, Math.min(11, type + 1)));
            Check.refused(before, x -> x.implement(1, type, 11));
        }
    }

    private static void howMany() {
        for (int kind = 0; kind < 2; kind++) {
            Judge x = new Judge();
            x.type(1, 6, kind, 0, -1);
            x.type(0, 6, kind, 0, -1);
            Check.due(x.implement(1, 6, 5), 1);
            Check.due(x.implement(1, 6, 0), 2);
            Check.due(x.implement(0, 6, 0), 1);
            Check.due(x.implement(1, 6, 3), 3);
        }
    }

    private static void notDefined() {
        Check.refused(Check::nothing, x -> x.implement(0, 1, 0));
        Check.refused(Check::nothing, x -> x.implement(1, 11, 10));
        Check.refused(Rich::build, x -> x.implement(0, 4, 0));
        Check.refused(Rich::build, x -> x.implement(0, 10, 0));
        Check.refused(Rich::build, x -> x.implement(0, 9, 0));
        Check.refused(Rich::build, x -> x.implement(1, 5, 0));
        Judge x = new Judge();
        x.type(0, 5, 0, 1, -1);
        Check.due(x.implement(0, 5, 0), 1);
        x.remove(0, 5);
        Check.refused(x.implement(0, 5, 1));
        x.type(0, 5, 0, 1, -1);
        Check.due(x.implement(0, 5, 1), 1);
    }

    private static void hasThree() {
        Check.Calls before = x -> {
            interfaces(x);
            x.implement(0, 11, 2);
            x.implement(0, 11, 0);
            x.implement(0, 11, 3);
        };
        for (int number = 0; number < 11; number++) {
            int other = number;
            Check.refused(before, x -> x.implement(0, 11, other));
        }
        Check.refused(Rich::build, x -> x.implement(0, 8, 0));
        Check.refused(Rich::build, x -> x.implement(1, 8, 6));
        Judge x = new Judge();
        before.on(x);
        Check.due(x.supertypes(0, 11), 13);
        x.copy();
        Check.refused(x.implement(1, 11, 1));
    }

    private static void hasThisOne() {
        Check.Calls before = x -> {
            interfaces(x);
            x.implement(0, 11, 2);
        };
        Check.refused(before, x -> x.implement(0, 11, 2));
        Check.Calls two = x -> {
            interfaces(x);
            x.implement(0, 11, 2);
            x.implement(0, 11, 1);
        };
        Check.refused(two, x -> x.implement(0, 11, 2));
        Check.refused(two, x -> x.implement(0, 11, 1));
        Check.refused(Rich::build, x -> x.implement(1, 3, 1));
        Judge x = new Judge();
        two.on(x);
        Check.due(x.implement(0, 3, 2), 1);
        Check.due(x.implement(0, 11, 3), 3);
        Check.due(x.supertypes(0, 11), 14);
    }

    private static void hasItThroughAnother() {
        Judge x = new Judge();
        interfaces(x);
        x.type(0, 9, 0, 1, -1);
        x.type(0, 10, 0, 1, 9);
        x.implement(0, 3, 1);
        x.implement(0, 9, 2);
        x.implement(0, 10, 3);
        Check.due(x.supertypes(0, 10), 512 + 8 + 4 + 2);
        Check.due(x.implement(0, 10, 1), 2);
        Check.due(x.implement(0, 10, 2), 3);
        x.remove(0, 3);
        x.remove(0, 9);
        Check.due(x.supertypes(0, 10), 4 + 2);
    }

    private static void numbersThatDoNotCount() {
        Judge x = new Judge();
        x.type(1, 5, 0, 0, -1);
        x.type(1, 1, 0, 0, -1);
        Check.due(x.implement(1, 5, 0), 1);
        Check.due(x.implement(1, 5, 1), 2);
        Check.refused(x.implement(1, 5, 0));
        Check.refused(x.implement(1, 5, 1));
        Check.due(x.implement(1, 5, 2), 3);
        Check.refused(x.implement(1, 5, 3));
        Check.due(x.supertypes(1, 5), 0);
        x.type(1, 0, 1, 0, -1);
        x.type(1, 2, 1, 0, -1);
        x.remove(1, 1);
        x.type(1, 1, 1, 0, -1);
        Check.due(x.supertypes(1, 5), 7);
    }
}
