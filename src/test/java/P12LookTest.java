/** Promise 12: look, and LOOKING UP of the terms. */
final class P12LookTest {
    public static void main(String[] args) {
        fieldsThroughInterfacesFirst();
        fieldsDepthFirst();
        methodsThroughClassesFirst();
        methodsOfInterfaces();
        methodsFromAnInterface();
        numbersThatDoNotCount();
        constructorsAreTheOwnOnes();
        upThroughAllTypes();
        refuses();
        Check.end();
    }

    private static void fieldsThroughInterfacesFirst() {
        CompatibilityJudge x = new CompatibilityJudge();
        x.type(0, 0, 1, 0, -1);
        x.type(0, 1, 0, 0, -1);
        x.type(0, 2, 0, 0, 1);
        x.implement(0, 2, 0);
        x.member(0, 0, 0, 3, 15);
        x.member(0, 1, 0, 3, 3);
        x.member(0, 1, 0, 4, 0);
        Check.due(x.look(0, 2, 0, 3), 0);
        Check.due(x.look(0, 2, 0, 4), 1);
        Check.due(x.look(0, 2, 0, 5), 12);
        Check.due(x.look(0, 2, 1, 3), 12);
        x.member(0, 2, 0, 3, 0);
        Check.due(x.look(0, 2, 0, 3), 2);
    }

    private static void fieldsDepthFirst() {
        CompatibilityJudge x = new CompatibilityJudge();
        x.type(0, 0, 1, 0, -1);
        x.type(0, 1, 1, 0, -1);
        x.type(0, 2, 1, 0, -1);
        x.type(0, 3, 1, 0, -1);
        x.type(0, 4, 0, 0, -1);
        x.type(0, 5, 0, 0, 4);
        x.implement(0, 3, 1);
        x.implement(0, 5, 3);
        x.implement(0, 5, 2);
        x.implement(0, 4, 0);
        x.member(0, 1, 0, 6, 15);
        x.member(0, 2, 0, 6, 15);
        x.member(0, 0, 0, 7, 15);
        x.member(0, 0, 0, 6, 15);
        Check.due(x.look(0, 5, 0, 6), 1);
        Check.due(x.look(0, 5, 0, 7), 0);
        Check.due(x.look(0, 4, 0, 6), 0);
        x.drop(0, 1, 0);
        Check.due(x.look(0, 5, 0, 6), 2);
        x.drop(0, 2, 0);
        Check.due(x.look(0, 5, 0, 6), 0);
    }

    private static void methodsThroughClassesFirst() {
        CompatibilityJudge x = new CompatibilityJudge();
        x.type(0, 0, 1, 0, -1);
        x.type(0, 1, 0, 0, -1);
        x.type(0, 2, 0, 0, 1);
        x.type(0, 3, 0, 0, 2);
        x.implement(0, 3, 0);
        x.member(0, 0, 1, 9, 3);
        Check.due(x.look(0, 3, 1, 9), 0);
        x.member(0, 1, 1, 9, 4);
        Check.due(x.look(0, 3, 1, 9), 1);
        x.member(0, 2, 1, 9, 19);
        Check.due(x.look(0, 3, 1, 9), 2);
        x.member(0, 3, 1, 9, 0);
        Check.due(x.look(0, 3, 1, 9), 3);
        Check.due(x.look(0, 3, 0, 9), 12);
    }

    private static void methodsOfInterfaces() {
        CompatibilityJudge x = new CompatibilityJudge();
        for (int type = 0; type < 6; type++) {
            x.type(0, type, 1, 0, -1);
        }
        x.type(0, 8, 0, 0, -1);
        x.type(0, 9, 0, 0, 8);
        x.implement(0, 8, 5);
        x.implement(0, 5, 0);
        x.implement(0, 5, 1);
        x.implement(0, 9, 4);
        x.implement(0, 9, 3);
        x.implement(0, 9, 2);
        x.member(0, 0, 1, 9, 7);
        x.member(0, 1, 1, 9, 0);
        Check.due(x.look(0, 9, 1, 9), 12);
        x.member(0, 5, 1, 9, 19);
        Check.due(x.look(0, 9, 1, 9), 5);
        x.member(0, 3, 1, 9, 19);
        Check.due(x.look(0, 9, 1, 9), 3);
        x.member(0, 4, 1, 9, 3);
        Check.due(x.look(0, 9, 1, 9), 4);
        x.member(0, 2, 1, 9, 3);
        Check.due(x.look(0, 9, 1, 9), 2);
        Check.due(x.look(0, 8, 1, 9), 5);
        Check.due(x.look(0, 0, 1, 9), 0);
        Check.due(x.look(0, 1, 1, 9), 1);
    }

    private static void methodsFromAnInterface() {
        CompatibilityJudge x = new CompatibilityJudge();
        for (int type = 0; type < 4; type++) {
            x.type(1, type, 1, 0, -1);
        }
        x.implement(1, 1, 0);
        x.implement(1, 3, 2);
        x.implement(1, 3, 1);
        x.member(1, 0, 1, 511, 3);
        x.member(1, 1, 1, 511, 19);
        x.member(1, 2, 1, 511, 3);
        Check.due(x.look(1, 3, 1, 511), 0);
        x.drop(1, 0, 0);
        Check.due(x.look(1, 3, 1, 511), 2);
        x.drop(1, 2, 0);
        Check.due(x.look(1, 3, 1, 511), 1);
        x.member(1, 3, 1, 511, 4);
        Check.due(x.look(1, 3, 1, 511), 3);
    }

    private static void numbersThatDoNotCount() {
        CompatibilityJudge x = new CompatibilityJudge();
        x.type(0, 1, 1, 0, -1);
        x.member(0, 1, 1, 2, 3);
        x.member(0, 1, 0, 2, 15);
        x.type(0, 3, 0, 0, 1);
        Check.due(x.look(0, 3, 1, 2), 12);
        Check.due(x.look(0, 3, 0, 2), 12);
        x.implement(0, 3, 1);
        Check.due(x.look(0, 3, 1, 2), 1);
        Check.due(x.look(0, 3, 0, 2), 1);
        x.remove(0, 1);
        Check.due(x.look(0, 3, 1, 2), 12);
        x.type(0, 1, 0, 0, -1);
        x.member(0, 1, 1, 2, 0);
        x.member(0, 1, 0, 2, 0);
        Check.due(x.look(0, 3, 1, 2), 1);
        Check.due(x.look(0, 3, 0, 2), 1);
        Check.due(x.look(0, 2, 1, 2), 12);
        Check.due(x.look(1, 3, 1, 2), 12);
    }

    private static void constructorsAreTheOwnOnes() {
        CompatibilityJudge x = new CompatibilityJudge();
        x.type(0, 1, 0, 0, -1);
        x.type(0, 2, 0, 0, 1);
        x.member(0, 1, 2, 7, 3);
        Check.due(x.look(0, 1, 2, 7), 1);
        Check.due(x.look(0, 2, 2, 7), 12);
        x.member(0, 2, 2, 7, 0);
        Check.due(x.look(0, 2, 2, 7), 2);
    }

    private static void upThroughAllTypes() {
        CompatibilityJudge x = new CompatibilityJudge();
        for (int type = 0; type < 12; type++) {
            x.type(0, type, 0, 0, type - 1);
            x.type(1, type, 1, 0, -1);
            x.implement(1, type, type - 1);
        }
        x.member(0, 0, 0, 63, 0);
        x.member(0, 0, 1, 511, 0);
        x.member(1, 0, 0, 63, 15);
        x.member(1, 0, 1, 511, 3);
        for (int type = 0; type < 12; type++) {
            Check.due(x.look(0, type, 0, 63), 0);
            Check.due(x.look(0, type, 1, 511), 0);
            Check.due(x.look(1, type, 0, 63), 0);
            Check.due(x.look(1, type, 1, 511), 0);
            Check.due(x.supertypes(0, type), (1 << type) - 1);
            Check.due(x.supertypes(1, type), (1 << type) - 1);
        }
    }

    private static void refuses() {
        CompatibilityJudge x = new CompatibilityJudge();
        int[] limits = {64, 512, 8};
        for (int kind = 0; kind < 3; kind++) {
            Check.due(x.look(0, 0, kind, limits[kind] - 1), 12);
            Check.due(x.look(0, 0, kind, limits[kind]), Check.REFUSED);
            Check.due(x.look(0, 0, kind, -1), Check.REFUSED);
            Check.due(x.look(0, 0, kind, Integer.MAX_VALUE), Check.REFUSED);
            Check.due(x.look(-1, 0, kind, 0), Check.REFUSED);
            Check.due(x.look(2, 0, kind, 0), Check.REFUSED);
            Check.due(x.look(0, -1, kind, 0), Check.REFUSED);
            Check.due(x.look(0, 12, kind, 0), Check.REFUSED);
        }
        Check.due(x.look(0, 0, -1, 0), Check.REFUSED);
        Check.due(x.look(0, 0, 3, 0), Check.REFUSED);
        Check.due(x.look(0, 0, Integer.MIN_VALUE, 0), Check.REFUSED);
    }
}
