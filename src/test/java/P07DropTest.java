/** Promise 7: drop. */
final class P07DropTest {
    public static void main(String[] args) {
        laterOnesMoveUp();
        refuses();
        Check.end();
    }

    private static CompatibilityJudge eightMembers() {
        CompatibilityJudge x = new CompatibilityJudge();
        x.type(1, 9, 0, 1, -1);
        for (int place = 0; place < 8; place++) {
            x.member(1, 9, 0, 10 + place, 3);
            x.constant(1, 9, place, place);
        }
        return x;
    }

    private static void laterOnesMoveUp() {
        CompatibilityJudge x = eightMembers();
        Check.due(x.drop(1, 9, 2), 7);
        Check.due(x.look(1, 9, 0, 12), 12);
        Check.due(x.look(1, 9, 0, 17), 9);
        Check.due(x.drop(1, 9, 7), Check.REFUSED);
        Check.due(x.drop(1, 9, 6), 6);
        Check.due(x.look(1, 9, 0, 17), 12);
        Check.due(x.drop(1, 9, 0), 5);
        x.swap();
        x.type(1, 9, 0, 1, -1);
        Check.dueFindings(x, "5 9 0", "5 9 1", "5 9 2", "5 9 3", "5 9 4");
        x.member(1, 9, 0, 14, 3);
        x.constant(1, 9, 0, 4);
        Check.dueFindings(x, "5 9 0", "5 9 1", "5 9 3", "5 9 4");
        for (int left = 4; left >= 0; left--) {
            Check.due(x.drop(0, 9, 0), left);
        }
        Check.due(x.drop(0, 9, 0), Check.REFUSED);
        Check.due(x.count(2), 0);
        Check.due(x.member(0, 9, 0, 10, 3), 0);
        Check.due(x.constant(0, 9, 0, 1), 0);
    }

    private static void refuses() {
        CompatibilityJudge x = eightMembers();
        String before = Check.state(x);
        Check.due(x.drop(0, 9, 0), Check.REFUSED);
        Check.due(x.drop(1, 8, 0), Check.REFUSED);
        Check.due(x.drop(1, 9, 8), Check.REFUSED);
        Check.due(x.drop(1, 9, -1), Check.REFUSED);
        Check.due(x.drop(1, 12, 0), Check.REFUSED);
        Check.due(x.drop(1, -1, 0), Check.REFUSED);
        Check.due(x.drop(2, 9, 0), Check.REFUSED);
        Check.due(x.drop(-1, 9, 0), Check.REFUSED);
        Check.due(x.drop(1, 9, Integer.MAX_VALUE), Check.REFUSED);
        Check.due(x.drop(1, 9, Integer.MIN_VALUE), Check.REFUSED);
        Check.dueSame(Check.state(x), before);
        Check.due(x.count(3), 8);
    }
}
