/** Promise 3: implement. */
final class P03ImplementTest {
    public static void main(String[] args) {
        addsUpToThree();
        takesNumbersThatDoNotCount();
        refusesWrongNumbers();
        keepsTheOrder();
        Check.end();
    }

    private static void addsUpToThree() {
        CompatibilityJudge x = new CompatibilityJudge();
        for (int type = 0; type < 4; type++) {
            x.type(0, type, 1, 1, -1);
        }
        x.type(0, 11, 0, 1, -1);
        Check.due(x.implement(0, 11, 2), 1);
        Check.due(x.implement(0, 11, 2), Check.REFUSED);
        Check.due(x.implement(0, 11, 0), 2);
        Check.due(x.implement(0, 11, 0), Check.REFUSED);
        Check.due(x.implement(0, 11, 3), 3);
        Check.due(x.implement(0, 11, 1), Check.REFUSED);
        Check.due(x.implement(0, 11, 3), Check.REFUSED);
        Check.due(x.supertypes(0, 11), 13);
        Check.due(x.supertypes(1, 11), 0);
        Check.due(x.implement(0, 3, 1), 1);
        Check.due(x.supertypes(0, 11), 15);
    }

    private static void takesNumbersThatDoNotCount() {
        CompatibilityJudge x = new CompatibilityJudge();
        x.type(1, 5, 0, 0, -1);
        x.type(1, 1, 0, 0, -1);
        Check.due(x.implement(1, 5, 0), 1);
        Check.due(x.implement(1, 5, 1), 2);
        Check.due(x.implement(1, 5, 0), Check.REFUSED);
        Check.due(x.implement(1, 5, 2), 3);
        Check.due(x.implement(1, 5, 3), Check.REFUSED);
        Check.due(x.supertypes(1, 5), 0);
        x.type(1, 0, 1, 0, -1);
        x.type(1, 2, 1, 0, -1);
        x.remove(1, 1);
        x.type(1, 1, 1, 0, -1);
        Check.due(x.supertypes(1, 5), 7);
        x.remove(1, 5);
        x.type(1, 5, 0, 0, -1);
        Check.due(x.supertypes(1, 5), 0);
        Check.due(x.implement(1, 5, 3), 1);
    }

    private static void refusesWrongNumbers() {
        CompatibilityJudge x = new CompatibilityJudge();
        x.type(0, 4, 1, 1, -1);
        x.type(0, 6, 1, 1, -1);
        String before = Check.state(x);
        Check.due(x.implement(0, 4, 4), Check.REFUSED);
        Check.due(x.implement(0, 4, 6), Check.REFUSED);
        Check.due(x.implement(0, 5, 4), Check.REFUSED);
        Check.due(x.implement(1, 6, 4), Check.REFUSED);
        Check.due(x.implement(2, 6, 4), Check.REFUSED);
        Check.due(x.implement(-1, 6, 4), Check.REFUSED);
        Check.due(x.implement(0, 12, 4), Check.REFUSED);
        Check.due(x.implement(0, -1, 4), Check.REFUSED);
        Check.due(x.implement(0, -1, -2), Check.REFUSED);
        Check.due(x.implement(0, 6, -1), Check.REFUSED);
        Check.due(x.implement(0, 6, 12), Check.REFUSED);
        Check.due(x.implement(0, Integer.MAX_VALUE, 4), Check.REFUSED);
        Check.due(x.implement(0, 6, Integer.MIN_VALUE), Check.REFUSED);
        Check.dueSame(Check.state(x), before);
        Check.due(x.implement(0, 6, 5), 1);
    }

    private static void keepsTheOrder() {
        CompatibilityJudge x = new CompatibilityJudge();
        x.type(0, 0, 1, 1, -1);
        x.type(0, 1, 1, 1, -1);
        x.member(0, 0, 0, 7, 15);
        x.member(0, 1, 0, 7, 15);
        x.type(0, 2, 0, 1, -1);
        x.implement(0, 2, 1);
        x.implement(0, 2, 0);
        x.type(0, 3, 0, 1, -1);
        x.implement(0, 3, 0);
        x.implement(0, 3, 1);
        Check.due(x.look(0, 2, 0, 7), 1);
        Check.due(x.look(0, 3, 0, 7), 0);
    }
}
