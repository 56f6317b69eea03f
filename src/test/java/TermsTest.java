/** The terms of the document, but for LOOKING UP and the RULES, which have tests of their own. */
final class TermsTest {
    public static void main(String[] args) {
        Check.sentence("An object is used for at most 512 calls after it has been made",
                TermsTest::theLastCallCounts);
        Check.sentence("BASELINES 0 (OLD) and 1 (NEW)", TermsTest::baselines);
        Check.sentence("TYPES 0 .. 11 are defined in a baseline or not (at first)",
                TermsTest::typesAtFirst);
        Check.sentence("TYPES 0 .. 11", TermsTest::typeNumbers);
        Check.sentence("A type is a CLASS 0 or an INTERFACE 1, and PUBLIC or not",
                TermsTest::kindsOfTypes);
        Check.sentence("has a superclass, the number of a type, or none", TermsTest::superclass);
        Check.sentence("a type has up to 3 direct superinterfaces", TermsTest::threeInterfaces);
        Check.sentence("numbers of types, in an order", TermsTest::interfacesInOrder);
        Check.sentence("All these numbers are lower than its own", TermsTest::lowerNumbers);
        Check.sentence("A number that isn't defined in the baseline counts as if it were not given",
                TermsTest::notDefined);
        Check.sentence("or is of the wrong kind there (a superclass must be a class)",
                TermsTest::superclassOfWrongKind);
        Check.sentence("(a superinterface an interface)", TermsTest::interfaceOfWrongKind);
        Check.sentence("it counts again when that changes", TermsTest::countsAgain);
        Check.sentence("SUPERTYPES of a type: its superclass, its superinterfaces, and their "
                + "supertypes", TermsTest::supertypes);
        Check.sentence("MEMBERS: a type has up to 8", TermsTest::eightMembers);
        Check.sentence("in the order in which they were added", TermsTest::membersInOrder);
        Check.sentence("each of a kind with a KEY", TermsTest::kindAndKey);
        Check.sentence("a FIELD 0 (key 0 .. 63)", () -> keys(0, 63));
        Check.sentence("a METHOD 1 (key 0 .. 511)", () -> keys(1, 511));
        Check.sentence("a CONSTRUCTOR 2 (key 0 .. 7)", () -> keys(2, 7));
        Check.sentence("A field may have a CONSTANT, an int", TermsTest::constants);
        Check.sentence("A member is OPEN if it is PROTECTED or PUBLIC", TermsTest::open);
        Check.sentence("Refused calls answer REFUSED and change nothing",
                TermsTest::refusedWhenFull);
        Check.sentence("numbers out of range are refused before all else",
                TermsTest::rangesFirst);
        Check.end();
    }

    private static void theLastCallCounts() {
        Judge x = new Judge();
        x.type(0, 11, 0, 1, -1);
        while (x.callsLeft() > 4) {
            x.suppress(0, 11, x.callsLeft() % 2 == 0);
        }
        Check.due(x.count(4), 0);
        Check.due(x.suppress(0, 11, true), 1);
        Check.due(x.finding(0, 4), 1);
        Check.due(x.verdict(), 0);
        Judge full = new Judge();
        while (full.callsLeft() > 2) {
            full.type(0, 3, 0, 1, 2);
            full.remove(0, 3);
        }
        Check.due(full.type(0, 3, 0, 1, 2), 1);
        Check.due(full.findings(), 1);
    }

    private static void baselines() {
        Judge x = new Judge();
        Check.due(x.type(0, 4, 0, 1, -1), 1);
        Check.due(x.count(0), 1);
        Check.due(x.count(1), 0);
        Check.findings(x, "0 4 -1");
        Judge y = new Judge();
        Check.due(y.type(1, 4, 0, 1, -1), 1);
        Check.due(y.count(0), 0);
        Check.due(y.count(1), 1);
        Check.findings(y);
        Check.range(0, 1, Rich::build, (z, n) -> z.type(n, 4, 0, 1, -1));
        Check.range(0, 1, Rich::build, (z, n) -> z.implement(n, 3, 0));
        Check.range(0, 1, Rich::build, (z, n) -> z.member(n, 3, 1, 0, 3));
        Check.range(0, 1, Rich::build, (z, n) -> z.constant(n, 3, 1, 2));
        Check.range(0, 1, Rich::build, (z, n) -> z.remove(n, 3));
        Check.range(0, 1, Rich::build, (z, n) -> z.drop(n, 3, 1));
        Check.range(0, 1, Rich::build, (z, n) -> z.supertypes(n, 3));
        Check.range(0, 1, Rich::build, (z, n) -> z.look(n, 3, 0, 1));
    }

    private static void typesAtFirst() {
        for (int baseline = 0; baseline < 2; baseline++) {
            Judge x = new Judge();
            for (int type = 0; type < 12; type++) {
                Check.refused(x.remove(baseline, type));
                Check.refused(x.drop(baseline, type, 0));
                Check.refused(x.member(baseline, type, 1, 0, 3));
                Check.due(x.type(baseline, type, 0, 1, -1), 1);
                Check.due(x.count(baseline), type + 1);
                Check.due(x.count(1 - baseline), 0);
            }
        }
    }

    private static void bothEnds(Judge x) {
        for (int baseline = 0; baseline < 2; baseline++) {
            x.type(baseline, 0, 0, 1, -1);
            x.member(baseline, 0, 0, 1, 3);
            x.type(baseline, 11, 0, 1, -1);
            x.member(baseline, 11, 0, 1, 3);
        }
    }

    private static void typeNumbers() {
        Check.range(0, 11, Check::nothing, (x, n) -> x.type(0, n, 0, 1, -1));
        Check.range(0, 11, Check::nothing, (x, n) -> x.type(1, n, 1, 1, -1));
        Check.refusedOutside(0, 11, TermsTest::bothEnds, (x, n) -> x.implement(0, n, 0));
        Check.range(0, 11, TermsTest::bothEnds, (x, n) -> x.member(0, n, 1, 1, 3));
        Check.range(0, 11, TermsTest::bothEnds, (x, n) -> x.constant(1, n, 0, 1));
        Check.range(0, 11, TermsTest::bothEnds, (x, n) -> x.remove(1, n));
        Check.range(0, 11, TermsTest::bothEnds, (x, n) -> x.drop(0, n, 0));
        Check.range(0, 11, TermsTest::bothEnds, (x, n) -> x.suppress(0, n, true));
        Check.range(0, 11, TermsTest::bothEnds, (x, n) -> x.supertypes(0, n));
        Check.range(0, 11, TermsTest::bothEnds, (x, n) -> x.look(1, n, 0, 1));
    }

    private static void kindsOfTypes() {
        Check.range(0, 1, Rich::build, (x, n) -> x.type(0, 4, n, 1, -1));
        Judge x = new Judge();
        x.type(0, 2, 0, 1, -1);
        x.type(0, 3, 1, 1, -1);
        Check.due(x.member(0, 2, 2, 0, 3), 0);
        Check.refused(x.member(0, 3, 2, 0, 3));
        x.copy();
        Check.findings(x);
        x.remove(0, 2);
        x.type(0, 2, 0, 0, -1);
        x.remove(0, 3);
        x.type(0, 3, 1, 0, -1);
        x.remove(1, 2);
        x.remove(1, 3);
        Check.findings(x);
    }

    private static void superclass() {
        Judge x = new Judge();
        Check.due(x.type(0, 3, 0, 1, -1), 1);
        Check.due(x.type(0, 4, 0, 1, 3), 1);
        Check.due(x.supertypes(0, 3), 0);
        Check.due(x.supertypes(0, 4), 8);
        Check.refused(Rich::build, y -> y.type(0, 4, 0, 1, -2));
        Check.refused(Rich::build, y -> y.type(0, 4, 0, 1, 12));
    }

    private static void threeInterfaces() {
        Judge x = new Judge();
        for (int type = 0; type < 5; type++) {
            x.type(0, type, 1, 1, -1);
        }
        x.type(0, 5, 0, 1, -1);
        for (int type = 4; type < 6; type++) {
            Check.due(x.supertypes(0, type), 0);
            Check.due(x.implement(0, type, 2), 1);
            Check.due(x.implement(0, type, 1), 2);
            Check.due(x.implement(0, type, 3), 3);
            Check.refused(x.implement(0, type, 0));
            Check.due(x.supertypes(0, type), 2 + 4 + 8);
        }
        Check.refused(Rich::build, y -> y.implement(0, 8, 0));
    }

    private static void interfacesInOrder() {
        int[][] orders = {{0, 1, 2}, {0, 2, 1}, {1, 0, 2}, {1, 2, 0}, {2, 0, 1}, {2, 1, 0}};
        for (int[] order : orders) {
            Judge x = new Judge();
            for (int type = 0; type < 3; type++) {
                x.type(0, type, 1, 1, -1);
                x.member(0, type, 0, 7, 15);
            }
            x.type(0, 3, 0, 1, -1);
            for (int other : order) {
                x.implement(0, 3, other);
            }
            Check.due(x.look(0, 3, 0, 7), order[0]);
            x.drop(0, order[0], 0);
            Check.due(x.look(0, 3, 0, 7), order[1]);
            x.drop(0, order[1], 0);
            Check.due(x.look(0, 3, 0, 7), order[2]);
        }
    }

    private static void lowerNumbers() {
        for (int own = 0; own < 12; own++) {
            int type = own;
            for (int number = 0; number < 12; number++) {
                int other = number;
                Judge x = new Judge();
                Check.due(x.type(0, type, 0, 1, other), other < type ? 1 : Check.REFUSED);
                Judge y = new Judge();
                y.type(0, type, 1, 1, -1);
                Check.due(y.implement(0, type, other), other < type ? 1 : Check.REFUSED);
            }
            Check.refused(Check::nothing, x -> x.type(0, type, 0, 1, type));
            Check.refused(x -> x.type(1, type, 0, 1, -1), x -> x.implement(1, type, type));
        }
    }

    /** Class 9 with superclass 5 and superinterface 4; both have the field and method 1. */
    private static Judge nine(int kindOf4, int kindOf5) {
        Judge x = new Judge();
        x.type(0, 9, 0, 1, 5);
        x.implement(0, 9, 4);
        define(x, 4, kindOf4);
        define(x, 5, kindOf5);
        return x;
    }

    private static void define(Judge x, int type, int kind) {
        if (kind >= 0) {
            x.type(0, type, kind, 1, -1);
            x.member(0, type, 0, 1, 15);
            x.member(0, type, 1, 1, 3);
        }
    }

    private static void dueAbove(Judge x, int supertypes, int field, int method) {
        Check.due(x.supertypes(0, 9), supertypes);
        Check.due(x.look(0, 9, 0, 1), field);
        Check.due(x.look(0, 9, 1, 1), method);
    }

    private static void notDefined() {
        dueAbove(nine(-1, -1), 0, 12, 12);
        dueAbove(nine(1, -1), 16, 4, 4);
        dueAbove(nine(-1, 0), 32, 5, 5);
        dueAbove(nine(1, 0), 48, 4, 5);
        Judge x = nine(1, 0);
        x.copy();
        Check.findings(x);
        x.remove(1, 4);
        Check.findings(x, "0 4 -1", "4 9 4");
        x.remove(1, 5);
        Check.findings(x, "0 4 -1", "0 5 -1", "4 9 4", "4 9 5");
        x.remove(0, 4);
        x.remove(0, 5);
        Check.findings(x);
    }

    private static void superclassOfWrongKind() {
        dueAbove(nine(-1, 1), 0, 12, 12);
        dueAbove(nine(1, 1), 16, 4, 4);
        Judge x = nine(1, 0);
        x.copy();
        x.remove(1, 5);
        x.type(1, 5, 1, 1, -1);
        Check.findings(x, "1 5 -1", "4 9 5");
    }

    private static void interfaceOfWrongKind() {
        dueAbove(nine(0, -1), 0, 12, 12);
        dueAbove(nine(0, 0), 32, 5, 5);
        dueAbove(nine(0, 1), 0, 12, 12);
        Judge x = nine(1, 0);
        x.copy();
        x.remove(1, 4);
        x.type(1, 4, 0, 1, -1);
        Check.findings(x, "1 4 -1", "4 9 4");
    }

    private static void countsAgain() {
        Judge x = nine(-1, -1);
        define(x, 4, 1);
        dueAbove(x, 16, 4, 4);
        define(x, 5, 0);
        dueAbove(x, 48, 4, 5);
        x.remove(0, 5);
        dueAbove(x, 16, 4, 4);
        define(x, 5, 1);
        dueAbove(x, 16, 4, 4);
        x.remove(0, 4);
        define(x, 4, 0);
        dueAbove(x, 0, 12, 12);
        x.remove(0, 5);
        define(x, 5, 0);
        dueAbove(x, 32, 5, 5);
        x.remove(0, 4);
        define(x, 4, 1);
        dueAbove(x, 48, 4, 5);
        x.copy();
        x.remove(1, 4);
        Check.findings(x, "0 4 -1", "4 9 4");
        x.type(1, 4, 1, 1, -1);
        Check.findings(x, "5 4 0", "5 4 1");
    }

    private static void supertypes() {
        Judge x = new Judge();
        x.type(0, 0, 1, 0, -1);
        x.type(0, 1, 1, 0, -1);
        x.type(0, 2, 1, 0, -1);
        x.type(0, 3, 0, 0, -1);
        x.type(0, 4, 0, 0, 3);
        x.implement(0, 1, 0);
        x.implement(0, 3, 2);
        x.implement(0, 4, 1);
        Check.due(x.supertypes(0, 0), 0);
        Check.due(x.supertypes(0, 1), 1);
        Check.due(x.supertypes(0, 3), 4);
        Check.due(x.supertypes(0, 4), 15);
    }

    private static void eightMembers() {
        for (int kind = 0; kind < 2; kind++) {
            Judge x = new Judge();
            x.type(0, 6, kind, 1, -1);
            for (int place = 0; place < 8; place++) {
                Check.due(x.count(2), place);
                Check.due(x.member(0, 6, 1, place, 3), place);
            }
            Check.refused(x.member(0, 6, 1, 8, 3));
            Check.due(x.count(2), 8);
            Check.due(x.look(0, 6, 1, 7), 6);
            Check.due(x.look(0, 6, 1, 8), 12);
        }
        Check.refused(Rich::build, x -> x.member(1, 11, 1, 511, 3));
    }

    private static void membersInOrder() {
        Judge x = new Judge();
        x.type(0, 6, 0, 1, -1);
        x.type(1, 6, 0, 1, -1);
        int[] keys = {5, 2, 7, 0, 3, 6, 1, 4};
        for (int key : keys) {
            x.member(0, 6, 1, key, 3);
        }
        for (int place = 7; place >= 0; place--) {
            Check.due(x.findings(), place + 1);
            Check.due(x.finding(place, 2), place);
            x.member(1, 6, 1, keys[place], 3);
        }
        Check.due(x.findings(), 0);
    }

    private static void kindAndKey() {
        Judge x = new Judge();
        x.type(0, 6, 0, 1, -1);
        for (int kind = 0; kind < 3; kind++) {
            Check.due(x.look(0, 6, kind, 7), 12);
            Check.due(x.member(0, 6, kind, 7, 3), kind);
            Check.due(x.look(0, 6, kind, 7), 6);
            Check.due(x.look(0, 6, kind, 6), 12);
        }
        Check.range(0, 2, Rich::build, (y, n) -> y.member(0, 5, n, 3, 3));
        Check.range(0, 2, Rich::build, (y, n) -> y.look(0, 5, n, 3));
    }

    private static void keys(int kind, int highest) {
        Check.range(0, highest, Rich::build, (x, n) -> x.member(0, 5, kind, n, 3));
        Check.range(0, highest, Rich::build, (x, n) -> x.look(0, 5, kind, n));
        Judge x = new Judge();
        x.type(0, 6, 0, 1, -1);
        x.member(0, 6, kind, highest, 3);
        Check.due(x.look(0, 6, kind, highest), 6);
        Check.due(x.look(0, 6, kind, highest - 1), 12);
        Check.due(x.look(0, 6, kind, 0), 12);
        x.member(0, 6, kind, 0, 3);
        Check.due(x.look(0, 6, kind, 0), 6);
        Check.due(x.look(0, 6, kind, 1), 12);
    }

    private static void constants() {
        int[] values = {Integer.MIN_VALUE, -1, 0, 1, Integer.MAX_VALUE};
        for (int before : values) {
            for (int after : values) {
                Judge x = new Judge();
                x.type(0, 6, 0, 1, -1);
                x.member(0, 6, 0, 1, 3);
                x.copy();
                Check.findings(x);
                Check.due(x.constant(0, 6, 0, before), 0);
                Check.findings(x, "9 6 0");
                Check.due(x.constant(1, 6, 0, after), 0);
                Check.due(x.findings(), before == after ? 0 : 1);
            }
        }
    }

    private static void open() {
        for (int kind = 0; kind < 3; kind++) {
            for (int access = 0; access < 4; access++) {
                Judge x = new Judge();
                x.type(0, 6, 0, 1, -1);
                x.type(1, 6, 0, 1, -1);
                x.member(0, 6, kind, 1, access);
                Check.due(x.findings(), access < 2 ? 0 : 1);
            }
        }
    }

    /** Every type is defined in both baselines, and has 8 members in OLD: 121 calls. */
    private static void full(Judge x) {
        for (int type = 0; type < 12; type++) {
            x.type(0, type, 0, 1, type - 1);
            for (int key = 0; key < 8; key++) {
                x.member(0, type, 1, key, 2);
            }
        }
        x.copy();
        for (int type = 0; type < 4; type++) {
            x.drop(1, type, 7);
        }
    }

    private static void refusedWhenFull() {
        for (int number = 0; number < 12; number++) {
            int type = number;
            Check.refused(TermsTest::full, x -> x.type(1, type, 0, 1, -1));
            Check.refused(TermsTest::full, x -> x.member(0, type, 0, 0, 3));
            Check.refused(TermsTest::full, x -> x.constant(0, type, 7, 1));
            Check.refused(TermsTest::full, x -> x.drop(0, type, 8));
        }
    }

    private static void rangesFirst() {
        Judge x = new Judge();
        Check.due(x.look(0, 4, 0, 63), 12);
        Check.refused(x.look(0, 4, 0, 64));
        Check.refused(x.look(0, 4, 1, 512));
        Check.refused(x.look(0, 4, 2, 8));
        Check.refused(x.look(0, 4, 3, 0));
        Check.refused(x.look(2, 4, 0, 0));
        Check.due(x.supertypes(1, 4), 0);
        Check.refused(x.supertypes(2, 4));
        Check.due(x.suppress(13, 11, false), 0);
        Check.refused(x.suppress(14, 11, false));
        Check.refused(x.suppress(13, 12, false));
        Check.refused(Rich::build, y -> y.type(-1, 12, 2, 8, 12));
        Check.refused(Rich::build, y -> y.implement(2, 12, -1));
        Check.refused(Rich::build, y -> y.member(2, -1, 3, 512, 32));
        Check.refused(Rich::build, y -> y.constant(-1, 12, 8, 0));
        Check.refused(Rich::build, y -> y.drop(2, -1, -1));
        Check.refused(Rich::build, y -> y.look(2, 12, 3, -1));
        Check.refused(Rich::build, y -> y.finding(-1, 5));
    }
}
