/** Promise 2: type. */
final class P02TypeTest {
    public static void main(String[] args) {
        definesInOneBaseline();
        takesEveryGoodShape();
        refusesBadShapes();
        refusesNumbersOutOfRange();
        refusalsChangeNothing();
        parentNeedNotBeDefined();
        Check.end();
    }

    private static void definesInOneBaseline() {
        CompatibilityJudge x = new CompatibilityJudge();
        for (int type = 0; type < 12; type++) {
            Check.due(x.type(0, type, 0, 0, -1), 1);
            Check.due(x.type(0, type, 0, 0, -1), Check.REFUSED);
            Check.due(x.type(0, type, 1, 1, -1), Check.REFUSED);
        }
        Check.due(x.count(0), 12);
        Check.due(x.count(1), 0);
        Check.due(x.type(1, 11, 1, 1, -1), 1);
        Check.due(x.count(1), 1);
    }

    private static void takesEveryGoodShape() {
        int[] classFlags = {0, 1, 2, 3, 4, 5};
        for (int flags : classFlags) {
            Check.due(new CompatibilityJudge().type(0, 11, 0, flags, -1), 1);
            Check.due(new CompatibilityJudge().type(1, 11, 0, flags, 10), 1);
            Check.due(new CompatibilityJudge().type(1, 11, 0, flags, 0), 1);
        }
        Check.due(new CompatibilityJudge().type(0, 0, 1, 0, -1), 1);
        Check.due(new CompatibilityJudge().type(0, 11, 1, 1, -1), 1);
    }

    private static void refusesBadShapes() {
        CompatibilityJudge x = new CompatibilityJudge();
        Check.due(x.type(0, 5, 0, 6, -1), Check.REFUSED);
        Check.due(x.type(0, 5, 0, 7, -1), Check.REFUSED);
        for (int flags = 2; flags < 8; flags++) {
            Check.due(x.type(0, 5, 1, flags, -1), Check.REFUSED);
        }
        Check.due(x.type(0, 5, 1, 1, 0), Check.REFUSED);
        Check.due(x.type(0, 5, 0, 1, 5), Check.REFUSED);
        Check.due(x.type(0, 5, 0, 1, 6), Check.REFUSED);
        Check.due(x.type(0, 0, 0, 1, 0), Check.REFUSED);
        Check.due(x.count(0), 0);
    }

    private static void refusesNumbersOutOfRange() {
        CompatibilityJudge x = new CompatibilityJudge();
        int[] wild = {Integer.MIN_VALUE, -2, 12, Integer.MAX_VALUE};
        for (int number : wild) {
            Check.due(x.type(number, 5, 0, 1, -1), Check.REFUSED);
            Check.due(x.type(0, number, 0, 1, -1), Check.REFUSED);
            Check.due(x.type(0, 5, number, 1, -1), Check.REFUSED);
            Check.due(x.type(0, 5, 0, number, -1), Check.REFUSED);
            Check.due(x.type(0, 5, 0, 1, number), Check.REFUSED);
        }
        Check.due(x.type(-1, 5, 0, 1, -1), Check.REFUSED);
        Check.due(x.type(2, 5, 0, 1, -1), Check.REFUSED);
        Check.due(x.type(0, -1, 0, 1, -1), Check.REFUSED);
        Check.due(x.type(0, 5, -1, 1, -1), Check.REFUSED);
        Check.due(x.type(0, 5, 2, 1, -1), Check.REFUSED);
        Check.due(x.type(0, 5, 0, -1, -1), Check.REFUSED);
        Check.due(x.type(0, 5, 0, 8, -1), Check.REFUSED);
        Check.due(x.count(0) + x.count(1), 0);
    }

    private static void refusalsChangeNothing() {
        CompatibilityJudge x = new CompatibilityJudge();
        x.type(0, 2, 0, 1, -1);
        x.type(0, 3, 0, 1, 2);
        x.member(0, 3, 1, 4, 3);
        x.copy();
        String before = Check.state(x);
        Check.due(x.type(1, 3, 0, 5, -1), Check.REFUSED);
        Check.due(x.type(1, 3, 1, 1, -1), Check.REFUSED);
        Check.due(x.type(1, 3, 0, 0, 1), Check.REFUSED);
        Check.dueSame(Check.state(x), before);
    }

    private static void parentNeedNotBeDefined() {
        CompatibilityJudge x = new CompatibilityJudge();
        Check.due(x.type(0, 4, 0, 1, 2), 1);
        Check.due(x.supertypes(0, 4), 0);
        Check.due(x.type(0, 2, 1, 1, -1), 1);
        Check.due(x.supertypes(0, 4), 0);
        x.remove(0, 2);
        Check.due(x.type(0, 2, 0, 1, -1), 1);
        Check.due(x.supertypes(0, 4), 4);
    }
}
