/** Promise 6: remove. */
final class P06RemoveTest {
    public static void main(String[] args) {
        takesTheTypeOut();
        othersKeepItsNumber();
        refuses();
        Check.end();
    }

    private static void takesTheTypeOut() {
        CompatibilityJudge x = new CompatibilityJudge();
        x.type(0, 0, 1, 1, -1);
        x.type(0, 2, 0, 1, -1);
        x.type(0, 3, 0, 3, 2);
        x.implement(0, 3, 0);
        x.member(0, 3, 1, 1, 3);
        x.member(0, 3, 0, 1, 3);
        x.copy();
        Check.due(x.remove(0, 3), 1);
        Check.due(x.remove(0, 3), Check.REFUSED);
        Check.due(x.count(0), 2);
        Check.due(x.count(1), 3);
        Check.due(x.count(2), 0);
        Check.due(x.count(3), 2);
        Check.due(x.supertypes(0, 3), 0);
        Check.due(x.look(0, 3, 1, 1), 12);
        Check.due(x.supertypes(1, 3), 5);
        Check.due(x.member(0, 3, 1, 1, 3), Check.REFUSED);
        Check.due(x.implement(0, 3, 1), Check.REFUSED);
        Check.due(x.type(0, 3, 1, 0, -1), 1);
        Check.due(x.supertypes(0, 3), 0);
        Check.due(x.count(2), 0);
        Check.due(x.member(0, 3, 1, 1, 3), 0);
        Check.due(x.implement(0, 3, 0), 1);
    }

    private static void othersKeepItsNumber() {
        CompatibilityJudge x = new CompatibilityJudge();
        x.type(0, 1, 0, 1, -1);
        x.member(0, 1, 1, 9, 3);
        x.type(0, 2, 0, 1, 1);
        x.type(0, 3, 0, 1, 2);
        Check.due(x.supertypes(0, 3), 6);
        Check.due(x.look(0, 3, 1, 9), 1);
        x.remove(0, 2);
        Check.due(x.supertypes(0, 3), 0);
        Check.due(x.look(0, 3, 1, 9), 12);
        x.type(0, 2, 0, 0, 1);
        Check.due(x.supertypes(0, 3), 6);
        Check.due(x.look(0, 3, 1, 9), 1);
    }

    private static void refuses() {
        CompatibilityJudge x = new CompatibilityJudge();
        x.type(0, 5, 0, 1, -1);
        Check.due(x.remove(0, 4), Check.REFUSED);
        Check.due(x.remove(1, 5), Check.REFUSED);
        Check.due(x.remove(-1, 5), Check.REFUSED);
        Check.due(x.remove(2, 5), Check.REFUSED);
        Check.due(x.remove(0, -1), Check.REFUSED);
        Check.due(x.remove(0, 12), Check.REFUSED);
        Check.due(x.remove(0, Integer.MIN_VALUE), Check.REFUSED);
        Check.due(x.count(0), 1);
    }
}
