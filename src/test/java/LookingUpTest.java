/** LOOKING UP, as the terms tell it. */
final class LookingUpTest {
    public static void main(String[] args) {
        Check.sentence("A field: the type's own with the key", LookingUpTest::ownField);
        Check.sentence("else what looking up from its superinterfaces, in their order, gives first",
                LookingUpTest::fieldOfInterfaces);
        Check.sentence("else from its superclass", LookingUpTest::fieldOfSuperclass);
        Check.sentence("A method from a class: the class's own, or else its superclass's own, and "
                + "so on up", LookingUpTest::methodOfClasses);
        Check.sentence("else, of the methods with the key of all interfaces among the class's "
                + "supertypes", LookingUpTest::methodOfAllInterfaces);
        Check.sentence("the one that is none of STATIC, PRIVATE, ABSTRACT, in the interface with "
                + "the least number", LookingUpTest::methodWithBody);
        Check.sentence("else the one that is ABSTRACT, in the interface with the least number",
                LookingUpTest::abstractMethod);
        Check.sentence("else none", LookingUpTest::noMethod);
        Check.sentence("A method from an interface: its own", LookingUpTest::interfacesOwn);
        Check.sentence("else the same of the interfaces among its supertypes",
                LookingUpTest::methodFromInterface);
        Check.sentence("A constructor: the type's own", LookingUpTest::constructor);
        Check.sentence("counts as if it were not given", LookingUpTest::numbersThatDoNotCount);
        Check.sentence("LOOKING UP in a baseline, from a type", LookingUpTest::throughAllTypes);
        Check.sentence("the number of a type: each may stand above", LookingUpTest::eachNumber);
        Check.end();
    }

    /** Interfaces 0, 1, 2 (2 has 0 over it), classes 4 and 5 (5 has 4, 2, 1 over it). */
    private static Judge tree() {
        Judge x = new Judge();
        x.type(0, 0, 1, 0, -1);
        x.type(0, 1, 1, 0, -1);
        x.type(0, 2, 1, 0, -1);
        x.implement(0, 2, 0);
        x.type(0, 4, 0, 0, -1);
        x.type(0, 5, 0, 0, 4);
        x.implement(0, 5, 2);
        x.implement(0, 5, 1);
        return x;
    }

    private static void ownField() {
        for (int access = 0; access < 4; access++) {
            Judge x = tree();
            for (int type = 0; type < 3; type++) {
                x.member(0, type, 0, 6, 15);
            }
            x.member(0, 4, 0, 6, 3);
            x.member(0, 5, 0, 6, access);
            for (int type = 0; type < 6; type++) {
                Check.due(x.look(0, type, 0, 6), type == 3 ? 12 : type);
            }
            Check.due(x.look(0, 5, 0, 5), 12);
            Check.due(x.look(0, 5, 1, 6), 12);
            Check.due(x.look(0, 5, 2, 6), 12);
        }
    }

    private static void fieldOfInterfaces() {
        Judge x = tree();
        x.member(0, 4, 0, 6, 3);
        x.member(0, 1, 0, 6, 15);
        Check.due(x.look(0, 5, 0, 6), 1);
        x.member(0, 0, 0, 6, 15);
        Check.due(x.look(0, 5, 0, 6), 0);
        x.member(0, 2, 0, 6, 15);
        Check.due(x.look(0, 5, 0, 6), 2);
        x.drop(0, 2, 0);
        Check.due(x.look(0, 5, 0, 6), 0);
        x.drop(0, 0, 0);
        Check.due(x.look(0, 5, 0, 6), 1);
        x.drop(0, 1, 0);
        Check.due(x.look(0, 5, 0, 6), 4);
    }

    private static void fieldOfSuperclass() {
        Judge x = tree();
        x.type(0, 9, 0, 0, 5);
        Check.due(x.look(0, 9, 0, 6), 12);
        x.member(0, 4, 0, 6, 0);
        Check.due(x.look(0, 9, 0, 6), 4);
        x.type(0, 3, 1, 0, -1);
        x.member(0, 3, 0, 6, 15);
        x.implement(0, 4, 3);
        Check.due(x.look(0, 9, 0, 6), 4);
        x.drop(0, 4, 0);
        Check.due(x.look(0, 9, 0, 6), 3);
        x.member(0, 1, 0, 6, 15);
        Check.due(x.look(0, 9, 0, 6), 1);
        x.member(0, 5, 0, 6, 0);
        Check.due(x.look(0, 9, 0, 6), 5);
    }

    private static void methodOfClasses() {
        for (int flags : new int[] {0, 1, 2, 3, 4, 8, 15, 17, 19}) {
            Judge x = tree();
            x.type(0, 9, 0, 0, 5);
            x.member(0, 0, 1, 6, 3);
            x.member(0, 1, 1, 6, 19);
            Check.due(x.look(0, 9, 1, 6), 0);
            x.member(0, 4, 1, 6, flags);
            Check.due(x.look(0, 9, 1, 6), 4);
            Check.due(x.look(0, 5, 1, 6), 4);
            Check.due(x.look(0, 4, 1, 6), 4);
            x.member(0, 5, 1, 6, flags);
            Check.due(x.look(0, 9, 1, 6), 5);
            x.member(0, 9, 1, 6, flags);
            Check.due(x.look(0, 9, 1, 6), 9);
            Check.due(x.look(0, 9, 0, 6), 12);
        }
    }

    /** An interface counts wherever it stands above: directly, over another, over a superclass. */
    private static void methodOfAllInterfaces() {
        for (int flags : new int[] {3, 19}) {
            Judge x = tree();
            x.type(0, 3, 1, 0, -1);
            x.implement(0, 4, 3);
            x.member(0, 3, 1, 6, flags);
            Check.due(x.look(0, 5, 1, 6), 3);
            x.member(0, 2, 1, 6, flags);
            Check.due(x.look(0, 5, 1, 6), 2);
            x.member(0, 1, 1, 6, flags);
            Check.due(x.look(0, 5, 1, 6), 1);
            x.member(0, 0, 1, 6, flags);
            Check.due(x.look(0, 5, 1, 6), 0);
            Check.due(x.look(0, 4, 1, 6), 3);
        }
        Judge beside = tree();
        beside.type(0, 3, 1, 0, -1);
        beside.member(0, 3, 1, 6, 3);
        Check.due(beside.look(0, 5, 1, 6), 12);
    }

    private static void methodWithBody() {
        Judge x = tree();
        x.member(0, 2, 1, 6, 3);
        x.member(0, 0, 1, 6, 4);
        x.member(0, 1, 1, 6, 0);
        Check.due(x.look(0, 5, 1, 6), 2);
        x.drop(0, 0, 0);
        x.member(0, 0, 1, 6, 19);
        Check.due(x.look(0, 5, 1, 6), 2);
        x.drop(0, 0, 0);
        x.member(0, 0, 1, 6, 7);
        Check.due(x.look(0, 5, 1, 6), 2);
        x.drop(0, 1, 0);
        x.member(0, 1, 1, 6, 3);
        Check.due(x.look(0, 5, 1, 6), 1);
        x.drop(0, 0, 0);
        x.member(0, 0, 1, 6, 3);
        Check.due(x.look(0, 5, 1, 6), 0);
    }

    private static void abstractMethod() {
        Judge x = tree();
        x.member(0, 2, 1, 6, 19);
        Check.due(x.look(0, 5, 1, 6), 2);
        x.member(0, 1, 1, 6, 19);
        Check.due(x.look(0, 5, 1, 6), 1);
        x.member(0, 0, 1, 6, 0);
        Check.due(x.look(0, 5, 1, 6), 1);
        x.drop(0, 0, 0);
        x.member(0, 0, 1, 6, 7);
        Check.due(x.look(0, 5, 1, 6), 1);
        x.drop(0, 0, 0);
        x.member(0, 0, 1, 6, 19);
        Check.due(x.look(0, 5, 1, 6), 0);
    }

    private static void noMethod() {
        Judge x = tree();
        Check.due(x.look(0, 5, 1, 6), 12);
        x.member(0, 0, 1, 6, 0);
        x.member(0, 1, 1, 6, 4);
        x.member(0, 2, 1, 6, 7);
        Check.due(x.look(0, 5, 1, 6), 12);
        x.type(0, 3, 1, 0, -1);
        x.implement(0, 3, 0);
        Check.due(x.look(0, 3, 1, 6), 12);
    }

    private static void interfacesOwn() {
        for (int flags : new int[] {0, 3, 4, 7, 19}) {
            Judge x = tree();
            x.member(0, 0, 1, 6, 3);
            Check.due(x.look(0, 2, 1, 6), 0);
            x.member(0, 2, 1, 6, flags);
            Check.due(x.look(0, 2, 1, 6), 2);
            Check.due(x.look(0, 0, 1, 6), 0);
            Check.due(x.look(0, 1, 1, 6), 12);
        }
    }

    private static void methodFromInterface() {
        Judge x = new Judge();
        for (int type = 0; type < 4; type++) {
            x.type(1, type, 1, 0, -1);
        }
        x.implement(1, 1, 0);
        x.implement(1, 3, 2);
        x.implement(1, 3, 1);
        x.member(1, 1, 1, 511, 19);
        x.member(1, 0, 1, 511, 3);
        x.member(1, 2, 1, 511, 3);
        Check.due(x.look(1, 3, 1, 511), 0);
        x.drop(1, 0, 0);
        Check.due(x.look(1, 3, 1, 511), 2);
        x.drop(1, 2, 0);
        Check.due(x.look(1, 3, 1, 511), 1);
        x.member(1, 2, 1, 511, 19);
        Check.due(x.look(1, 3, 1, 511), 1);
        x.member(1, 0, 1, 511, 0);
        Check.due(x.look(1, 3, 1, 511), 1);
        x.drop(1, 0, 0);
        x.member(1, 0, 1, 511, 4);
        x.drop(1, 1, 0);
        Check.due(x.look(1, 3, 1, 511), 2);
        x.drop(1, 2, 0);
        Check.due(x.look(1, 3, 1, 511), 12);
    }

    private static void constructor() {
        Judge x = tree();
        x.member(0, 4, 2, 7, 3);
        Check.due(x.look(0, 4, 2, 7), 4);
        Check.due(x.look(0, 4, 2, 6), 12);
        Check.due(x.look(0, 5, 2, 7), 12);
        x.member(0, 5, 2, 7, 0);
        Check.due(x.look(0, 5, 2, 7), 5);
    }

    private static void numbersThatDoNotCount() {
        Judge x = new Judge();
        x.type(0, 1, 1, 0, -1);
        x.member(0, 1, 1, 2, 3);
        x.member(0, 1, 0, 2, 15);
        x.type(0, 3, 0, 0, 1);
        Check.due(x.look(0, 3, 1, 2), 12);
        Check.due(x.look(0, 3, 0, 2), 12);
        x.implement(0, 3, 1);
        Check.due(x.look(0, 3, 1, 2), 1);
        Check.due(x.look(0, 3, 0, 2), 1);
        x.remove(0, 1);
        Check.due(x.look(0, 3, 1, 2), 12);
        Check.due(x.look(0, 3, 0, 2), 12);
        x.type(0, 1, 0, 0, -1);
        x.member(0, 1, 1, 2, 0);
        x.member(0, 1, 0, 2, 0);
        Check.due(x.look(0, 3, 1, 2), 1);
        Check.due(x.look(0, 3, 0, 2), 1);
    }

    private static void throughAllTypes() {
        Judge x = new Judge();
        for (int type = 0; type < 12; type++) {
            x.type(0, type, 0, 0, type - 1);
            x.type(1, type, 1, 0, -1);
            x.implement(1, type, type - 1);
        }
        x.member(0, 0, 0, 63, 0);
        x.member(0, 0, 1, 511, 0);
        x.member(1, 0, 0, 62, 15);
        x.member(1, 0, 1, 510, 3);
        for (int type = 0; type < 12; type++) {
            Check.due(x.look(0, type, 0, 63), 0);
            Check.due(x.look(0, type, 1, 511), 0);
            Check.due(x.look(1, type, 0, 63), 12);
            Check.due(x.look(1, type, 1, 511), 12);
            Check.due(x.look(1, type, 0, 62), 0);
            Check.due(x.look(1, type, 1, 510), 0);
            Check.due(x.look(0, type, 0, 62), 12);
            Check.due(x.look(0, type, 1, 510), 12);
        }
    }

    private static void eachNumber() {
        for (int above = 0; above < 11; above++) {
            for (int sub = 0; sub < 2; sub++) {
                Judge x = new Judge();
                x.type(0, above, 1, 0, -1);
                x.type(0, 11, sub, 0, -1);
                x.implement(0, 11, above);
                x.member(0, above, 0, 1, 15);
                x.member(0, above, 1, 1, 3);
                x.member(0, above, 1, 2, 19);
                x.member(0, above, 1, 3, 7);
                x.member(0, above, 1, 4, 0);
                Check.due(x.look(0, 11, 0, 1), above);
                Check.due(x.look(0, 11, 1, 1), above);
                Check.due(x.look(0, 11, 1, 2), above);
                Check.due(x.look(0, 11, 1, 3), 12);
                Check.due(x.look(0, 11, 1, 4), 12);
            }
            Judge y = new Judge();
            y.type(0, above, 0, 0, -1);
            y.type(0, 11, 0, 0, above);
            y.member(0, above, 0, 1, 0);
            y.member(0, above, 1, 1, 0);
            Check.due(y.look(0, 11, 0, 1), above);
            Check.due(y.look(0, 11, 1, 1), above);
        }
    }
}
