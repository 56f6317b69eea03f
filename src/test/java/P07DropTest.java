/** Promise 7: drop. */
final class P07DropTest {
    public static void main(String[] args) {
        Check.sentence("Takes the member at the place out of the type", P07DropTest::takesOut);
        Check.sentence("later ones moving up", P07DropTest::movingUp);
        Check.sentence("how many are left", P07DropTest::howManyAreLeft);
        Check.sentence("REFUSED: no such type", P07DropTest::noSuchType);
        Check.sentence("REFUSED: no such member", P07DropTest::noSuchMember);
        Check.sentence("what moves up keeps its flags and constant", P07DropTest::keepsAll);
        Check.end();
    }

    private static void eightFields(Judge x) {
        x.type(1, 9, 0, 1, -1);
        for (int place = 0; place < 8; place++) {
            x.member(1, 9, 0, 10 + place, 3);
        }
    }

    private static void takesOut() {
        for (int place = 0; place < 8; place++) {
            Judge x = new Judge();
            eightFields(x);
            Check.due(x.drop(1, 9, place), 7);
            for (int each = 0; each < 8; each++) {
                Check.due(x.look(1, 9, 0, 10 + each), each == place ? 12 : 9);
            }
            Check.due(x.count(3), 7);
            Check.due(x.member(1, 9, 0, 10 + place, 3), 7);
        }
    }

    private static void movingUp() {
        for (int place = 0; place < 8; place++) {
            Judge x = new Judge();
            eightFields(x);
            x.swap();
            x.type(1, 9, 0, 1, -1);
            x.drop(0, 9, place);
            for (int each = 0; each < 8; each++) {
                if (each != place) {
                    int due = each < place ? each : each - 1;
                    x.member(1, 9, 0, 10 + each, 7);
                    Check.due(x.byRule(7), 1);
                    Check.due(x.finding(x.findings() - 1, 2), due);
                    x.drop(1, 9, 0);
                }
            }
        }
    }

    private static void howManyAreLeft() {
        Judge x = new Judge();
        eightFields(x);
        x.type(1, 10, 0, 1, -1);
        x.member(1, 10, 1, 1, 3);
        for (int left = 7; left >= 0; left--) {
            Check.due(x.drop(1, 9, left / 2), left);
            Check.due(x.count(3), left + 1);
        }
        Check.refused(x.drop(1, 9, 0));
        Check.due(x.member(1, 9, 0, 10, 3), 0);
        Check.due(x.drop(1, 9, 0), 0);
        Check.due(x.drop(1, 10, 0), 0);
    }

    private static void noSuchType() {
        Check.refusedOutside(0, 11, Rich::build, (x, n) -> x.drop(0, n, 0));
        Check.range(0, 1, Rich::build, (x, n) -> x.drop(n, 3, 0));
        Check.refused(Check::nothing, x -> x.drop(0, 0, 0));
        Check.refused(Check::nothing, x -> x.drop(1, 11, 0));
        Check.refused(Rich::build, x -> x.drop(0, 4, 0));
        Check.refused(Rich::build, x -> x.drop(0, 9, 0));
        Check.refused(Rich::build, x -> x.drop(1, 5, 0));
        Judge x = new Judge();
        eightFields(x);
        Check.refused(x.drop(0, 9, 0));
        x.remove(1, 9);
        Check.refused(x.drop(1, 9, 0));
        x.type(1, 9, 0, 1, -1);
        Check.refused(x.drop(1, 9, 0));
    }

    private static void noSuchMember() {
        Check.range(0, 7, P07DropTest::eightFields, (x, n) -> x.drop(1, 9, n));
        Check.range(0, 2, Rich::build, (x, n) -> x.drop(0, 3, n));
        Check.range(0, 1, Rich::build, (x, n) -> x.drop(1, 3, n));
        Check.refused(Rich::build, x -> x.drop(0, 7, 0));
        Check.refused(Rich::build, x -> x.drop(1, 9, 0));
        Judge x = new Judge();
        eightFields(x);
        Check.due(x.drop(1, 9, 7), 7);
        Check.refused(x.drop(1, 9, 7));
        Check.due(x.drop(1, 9, 6), 6);
    }

    private static void keepsAll() {
        Judge x = new Judge();
        x.type(0, 9, 0, 1, -1);
        x.member(0, 9, 2, 1, 3);
        x.member(0, 9, 0, 1, 15);
        x.constant(0, 9, 1, 77);
        x.member(0, 9, 0, 2, 2);
        x.member(0, 9, 1, 1, 19);
        x.copy();
        x.drop(1, 9, 0);
        Check.findings(x, "5 9 0");
        x.drop(0, 9, 0);
        Check.findings(x);
        Check.refused(x.constant(0, 9, 2, 1));
        Check.due(x.constant(0, 9, 1, 1), 0);
        Check.due(x.constant(0, 9, 0, 78), 1);
        Check.findings(x, "9 9 0", "9 9 1");
        x.swap();
        Check.findings(x, "9 9 0");
    }
}
