/** Promise 4: member. */
final class P04MemberTest {
    public static void main(String[] args) {
        answersPlacesUpToEight();
        takesJustTheGoodFlags();
        takesKeysInTheirRanges();
        refusesTheSameKindAndKey();
        refusesNumbersOutOfRange();
        refusalsChangeNothing();
        Check.end();
    }

    private static void answersPlacesUpToEight() {
        CompatibilityJudge x = new CompatibilityJudge();
        Check.due(x.member(0, 11, 1, 0, 3), Check.REFUSED);
        x.type(0, 11, 0, 1, -1);
        Check.due(x.member(1, 11, 1, 0, 3), Check.REFUSED);
        for (int place = 0; place < 8; place++) {
            Check.due(x.member(0, 11, 1, place, 3), place);
        }
        Check.due(x.member(0, 11, 1, 8, 3), Check.REFUSED);
        Check.due(x.member(0, 11, 0, 0, 3), Check.REFUSED);
        Check.due(x.count(2), 8);
        Check.due(x.drop(0, 11, 3), 7);
        Check.due(x.member(0, 11, 1, 3, 3), 7);
        Check.due(x.member(0, 11, 1, 8, 3), Check.REFUSED);
    }

    private static void takesJustTheGoodFlags() {
        int[] field = {0, 1, 2, 3, 4, 5, 6, 7, 8, 9, 10, 11, 12, 13, 14, 15};
        int[] method = {0, 1, 2, 3, 4, 5, 6, 7, 8, 9, 10, 11, 12, 13, 14, 15, 17, 18, 19};
        int[] constructor = {0, 1, 2, 3};
        for (int classFlags = 0; classFlags < 6; classFlags++) {
            dueFlags(0, classFlags, 0, field);
            dueFlags(0, classFlags, 1, method);
            dueFlags(0, classFlags, 2, constructor);
        }
        for (int interfaceFlags = 0; interfaceFlags < 2; interfaceFlags++) {
            dueFlags(1, interfaceFlags, 0, 15);
            dueFlags(1, interfaceFlags, 1, 0, 3, 4, 7, 19);
            dueFlags(1, interfaceFlags, 2);
        }
    }

    private static void dueFlags(int typeKind, int typeFlags, int kind, int... good) {
        for (int flags = -1; flags <= 32; flags++) {
            boolean isGood = false;
            for (int each : good) {
                isGood |= each == flags;
            }
            CompatibilityJudge x = new CompatibilityJudge();
            x.type(0, 1, typeKind, typeFlags, -1);
            Check.due(x.member(0, 1, kind, 1, flags), isGood ? 0 : Check.REFUSED);
            Check.due(x.count(2), isGood ? 1 : 0);
        }
    }

    private static void takesKeysInTheirRanges() {
        int[] limits = {64, 512, 8};
        for (int kind = 0; kind < 3; kind++) {
            CompatibilityJudge x = new CompatibilityJudge();
            x.type(1, 0, 0, 0, -1);
            Check.due(x.member(1, 0, kind, limits[kind], 0), Check.REFUSED);
            Check.due(x.member(1, 0, kind, -1, 0), Check.REFUSED);
            Check.due(x.member(1, 0, kind, Integer.MIN_VALUE, 0), Check.REFUSED);
            Check.due(x.member(1, 0, kind, Integer.MAX_VALUE, 0), Check.REFUSED);
            Check.due(x.member(1, 0, kind, limits[kind] - 1, 0), 0);
            Check.due(x.member(1, 0, kind, 0, 0), 1);
            Check.due(x.look(1, 0, kind, limits[kind] - 1), 0);
            Check.due(x.look(1, 0, kind, 1), 12);
        }
    }

    private static void refusesTheSameKindAndKey() {
        CompatibilityJudge x = new CompatibilityJudge();
        x.type(0, 3, 0, 1, -1);
        x.type(0, 4, 0, 1, 3);
        Check.due(x.member(0, 3, 0, 5, 3), 0);
        Check.due(x.member(0, 3, 1, 5, 3), 1);
        Check.due(x.member(0, 3, 2, 5, 3), 2);
        Check.due(x.member(0, 3, 0, 5, 0), Check.REFUSED);
        Check.due(x.member(0, 3, 1, 5, 4), Check.REFUSED);
        Check.due(x.member(0, 3, 2, 5, 1), Check.REFUSED);
        Check.due(x.member(0, 4, 1, 5, 3), 0);
        Check.due(x.count(2), 4);
    }

    private static void refusesNumbersOutOfRange() {
        CompatibilityJudge x = new CompatibilityJudge();
        x.type(0, 3, 0, 1, -1);
        Check.due(x.member(-1, 3, 1, 5, 3), Check.REFUSED);
        Check.due(x.member(2, 3, 1, 5, 3), Check.REFUSED);
        Check.due(x.member(0, -1, 1, 5, 3), Check.REFUSED);
        Check.due(x.member(0, 12, 1, 5, 3), Check.REFUSED);
        Check.due(x.member(0, 3, -1, 5, 3), Check.REFUSED);
        Check.due(x.member(0, 3, 3, 5, 3), Check.REFUSED);
        Check.due(x.member(0, 3, Integer.MAX_VALUE, 5, 3), Check.REFUSED);
        Check.due(x.member(0, 3, 1, 5, Integer.MIN_VALUE), Check.REFUSED);
        Check.due(x.count(2), 0);
    }

    private static void refusalsChangeNothing() {
        CompatibilityJudge x = new CompatibilityJudge();
        x.type(0, 3, 0, 1, -1);
        x.member(0, 3, 0, 5, 3);
        x.constant(0, 3, 0, 9);
        x.copy();
        String before = Check.state(x);
        Check.due(x.member(1, 3, 0, 5, 0), Check.REFUSED);
        Check.due(x.member(1, 3, 0, 6, 16), Check.REFUSED);
        Check.due(x.member(1, 3, 2, 6, 8), Check.REFUSED);
        Check.dueSame(Check.state(x), before);
    }
}
