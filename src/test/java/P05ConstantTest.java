/** Promise 5: constant. */
final class P05ConstantTest {
    public static void main(String[] args) {
        Check.sentence("Gives the field at the place of the type a constant",
                P05ConstantTest::gives);
        Check.sentence("in place of an earlier one", P05ConstantTest::replaces);
        Check.sentence("1 if it had one, else 0", P05ConstantTest::hadOne);
        Check.sentence("an int: every value is one", P05ConstantTest::everyInt);
        Check.sentence("REFUSED: no such type", P05ConstantTest::noSuchType);
        Check.sentence("REFUSED: no such member", P05ConstantTest::noSuchMember);
        Check.sentence("REFUSED: or no field", P05ConstantTest::noField);
        Check.sentence("The constant goes with its field", P05ConstantTest::goesWithItsField);
        Check.end();
    }

    /** Class 6 with a method, two fields and a constructor, the same in OLD and NEW. */
    private static Judge fourMembers() {
        Judge x = new Judge();
        x.type(0, 6, 0, 1, -1);
        x.member(0, 6, 1, 2, 3);
        x.member(0, 6, 0, 2, 3);
        x.member(0, 6, 0, 3, 3);
        x.member(0, 6, 2, 2, 3);
        x.copy();
        return x;
    }

    private static void gives() {
        Judge x = fourMembers();
        Check.due(x.constant(0, 6, 1, 4), 0);
        Check.findings(x, "9 6 1");
        Check.due(x.constant(0, 6, 2, 4), 0);
        Check.findings(x, "9 6 1", "9 6 2");
        Check.due(x.constant(1, 6, 1, 4), 0);
        Check.findings(x, "9 6 2");
        Judge full = new Judge();
        full.type(0, 0, 1, 1, -1);
        for (int key = 0; key < 8; key++) {
            full.member(0, 0, 0, key, 15);
        }
        Check.due(full.constant(0, 0, 0, 1), 0);
        Check.due(full.constant(0, 0, 7, 1), 0);
        Check.due(full.constant(0, 0, 7, 1), 1);
        Check.refused(full.constant(0, 0, 8, 1));
    }

    private static void replaces() {
        Judge x = fourMembers();
        x.constant(0, 6, 1, 4);
        x.constant(1, 6, 1, 4);
        Check.findings(x);
        x.constant(1, 6, 1, 5);
        Check.findings(x, "9 6 1");
        x.constant(0, 6, 1, 5);
        Check.findings(x);
        x.constant(0, 6, 1, 4);
        Check.findings(x, "9 6 1");
    }

    private static void hadOne() {
        Judge x = fourMembers();
        Check.due(x.constant(0, 6, 1, 0), 0);
        Check.due(x.constant(0, 6, 1, 0), 1);
        Check.due(x.constant(0, 6, 1, 7), 1);
        Check.due(x.constant(0, 6, 2, 7), 0);
        Check.due(x.constant(1, 6, 1, 7), 0);
        Check.due(x.constant(1, 6, 1, -1), 1);
    }

    private static void everyInt() {
        int[] values = {Integer.MIN_VALUE, Integer.MIN_VALUE + 1, -1, 0, 1, 256, 65536,
            Integer.MAX_VALUE};
        for (int value : values) {
            Judge x = fourMembers();
            Check.due(x.constant(0, 6, 1, value), 0);
            Check.findings(x, "9 6 1");
            Check.due(x.constant(1, 6, 1, value + 1), 0);
            Check.findings(x, "9 6 1");
            Check.due(x.constant(1, 6, 1, value), 1);
            Check.findings(x);
            Check.due(x.constant(1, 6, 1, -value - 1), 1);
            Check.findings(x, "9 6 1");
        }
    }

    private static void noSuchType() {
        Check.refusedOutside(0, 11, Rich::build, (x, n) -> x.constant(0, n, 0, 4));
        Check.range(0, 1, Rich::build, (x, n) -> x.constant(n, 3, 1, 4));
        Check.refused(Check::nothing, x -> x.constant(0, 0, 0, 4));
        Check.refused(Rich::build, x -> x.constant(0, 4, 0, 4));
        Check.refused(Rich::build, x -> x.constant(0, 9, 0, 4));
        Check.refused(Rich::build, x -> x.constant(1, 5, 0, 4));
        Judge x = fourMembers();
        x.remove(0, 6);
        Check.refused(x.constant(0, 6, 1, 4));
        Check.due(x.constant(1, 6, 1, 4), 0);
    }

    private static void noSuchMember() {
        Check.refusedOutside(0, 7, Rich::build, (x, n) -> x.constant(0, 11, n, 4));
        Check.refusedOutside(0, 2, Rich::build, (x, n) -> x.constant(0, 3, n, 4));
        Check.refused(Rich::build, x -> x.constant(0, 2, 2, 4));
        Check.refused(Rich::build, x -> x.constant(0, 7, 0, 4));
        Check.refused(Rich::build, x -> x.constant(1, 3, 2, 4));
        Judge x = new Judge();
        x.type(0, 6, 0, 1, -1);
        Check.refused(x.constant(0, 6, 0, 4));
        x.member(0, 6, 0, 2, 3);
        Check.refused(x.constant(0, 6, 1, 4));
        Check.due(x.constant(0, 6, 0, 4), 0);
        x.drop(0, 6, 0);
        Check.refused(x.constant(0, 6, 0, 4));
    }

    private static void noField() {
        Check.refused(Rich::build, x -> x.constant(0, 3, 0, 4));
        Check.refused(Rich::build, x -> x.constant(0, 3, 2, 4));
        Check.refused(Rich::build, x -> x.constant(1, 0, 1, 4));
        Check.refused(Rich::build, x -> x.constant(1, 11, 0, 4));
        Check.refused(Rich::build, x -> x.constant(1, 11, 7, 4));
        Judge x = fourMembers();
        Check.refused(x.constant(0, 6, 0, 4));
        Check.refused(x.constant(0, 6, 3, 4));
        Check.findings(x);
        Check.due(x.constant(0, 6, 1, 4), 0);
    }

    private static void goesWithItsField() {
        Judge x = fourMembers();
        x.constant(0, 6, 1, 4);
        x.constant(1, 6, 1, 4);
        x.drop(0, 6, 0);
        Check.findings(x);
        Check.due(x.constant(0, 6, 1, 9), 0);
        Check.findings(x, "9 6 1");
        Check.due(x.constant(0, 6, 0, 4), 1);
        x.drop(0, 6, 0);
        Check.due(x.constant(0, 6, 0, 4), 1);
        x.member(0, 6, 0, 2, 3);
        Check.due(x.constant(0, 6, 2, 4), 0);
        x.remove(0, 6);
        x.type(0, 6, 0, 1, -1);
        x.member(0, 6, 0, 2, 3);
        Check.due(x.constant(0, 6, 0, 4), 0);
    }
}
