/** Promise 5: constant. */
final class P05ConstantTest {
    public static void main(String[] args) {
        givesAndReplaces();
        refusesWhatIsNoField();
        refusesNumbersOutOfRange();
        goesWithItsField();
        everyIntIsAConstant();
        Check.end();
    }

    private static CompatibilityJudge threeMembers() {
        CompatibilityJudge x = new CompatibilityJudge();
        x.type(0, 6, 0, 1, -1);
        x.member(0, 6, 1, 2, 3);
        x.member(0, 6, 0, 2, 3);
        x.member(0, 6, 2, 2, 3);
        return x;
    }

    private static void givesAndReplaces() {
        CompatibilityJudge x = threeMembers();
        Check.due(x.constant(0, 6, 1, 4), 0);
        Check.due(x.constant(0, 6, 1, 4), 1);
        x.copy();
        Check.dueFindings(x);
        Check.due(x.constant(1, 6, 1, 5), 1);
        Check.dueFindings(x, "9 6 1");
        Check.due(x.constant(0, 6, 1, 5), 1);
        Check.dueFindings(x);
    }

    private static void refusesWhatIsNoField() {
        CompatibilityJudge x = threeMembers();
        Check.due(x.constant(0, 6, 0, 4), Check.REFUSED);
        Check.due(x.constant(0, 6, 2, 4), Check.REFUSED);
        Check.due(x.constant(0, 6, 3, 4), Check.REFUSED);
        Check.due(x.constant(0, 5, 1, 4), Check.REFUSED);
        Check.due(x.constant(1, 6, 1, 4), Check.REFUSED);
        Check.due(x.constant(0, 6, 1, 4), 0);
    }

    private static void refusesNumbersOutOfRange() {
        CompatibilityJudge x = threeMembers();
        Check.due(x.constant(-1, 6, 1, 4), Check.REFUSED);
        Check.due(x.constant(2, 6, 1, 4), Check.REFUSED);
        Check.due(x.constant(0, -1, 1, 4), Check.REFUSED);
        Check.due(x.constant(0, 12, 1, 4), Check.REFUSED);
        Check.due(x.constant(0, 6, -1, 4), Check.REFUSED);
        Check.due(x.constant(0, 6, 7, 4), Check.REFUSED);
        Check.due(x.constant(0, 6, 8, 4), Check.REFUSED);
        Check.due(x.constant(0, 6, Integer.MIN_VALUE, 4), Check.REFUSED);
        Check.due(x.constant(0, 6, Integer.MAX_VALUE, 4), Check.REFUSED);
        Check.due(x.constant(0, 6, 1, 4), 0);
    }

    private static void goesWithItsField() {
        CompatibilityJudge x = threeMembers();
        x.constant(0, 6, 1, 4);
        x.drop(0, 6, 0);
        Check.due(x.constant(0, 6, 0, 4), 1);
        x.drop(0, 6, 0);
        x.member(0, 6, 0, 2, 3);
        Check.due(x.constant(0, 6, 1, 4), 0);
        x.remove(0, 6);
        x.type(0, 6, 0, 1, -1);
        x.member(0, 6, 0, 2, 3);
        Check.due(x.constant(0, 6, 0, 4), 0);
    }

    private static void everyIntIsAConstant() {
        CompatibilityJudge x = threeMembers();
        x.copy();
        x.constant(0, 6, 1, 0);
        Check.dueFindings(x, "9 6 1");
        x.constant(1, 6, 1, 0);
        Check.dueFindings(x);
        x.constant(0, 6, 1, Integer.MIN_VALUE);
        Check.dueFindings(x, "9 6 1");
        x.constant(1, 6, 1, Integer.MAX_VALUE);
        Check.dueFindings(x, "9 6 1");
        x.constant(1, 6, 1, Integer.MIN_VALUE);
        Check.dueFindings(x);
        x.constant(0, 6, 1, -1);
        x.constant(1, 6, 1, -1);
        Check.dueFindings(x);
    }
}
