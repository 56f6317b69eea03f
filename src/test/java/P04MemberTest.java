/** Promise 4: member. */
final class P04MemberTest {
    public static void main(String[] args) {
        ordinary();
        refusals();
        inInterfaces();
        Check.end();
    }

    private static void ordinary() {
        Check.sentence("Adds a member to the type; answers its place", P04MemberTest::places);
        Check.sentence("kind 0 .. 2", P04MemberTest::kinds);
        Check.sentence("key in its range", P04MemberTest::keys);
        Check.sentence("flags 0 .. 31", P04MemberTest::flags);
        Check.sentence("Every other member may be", P04MemberTest::allGoodFlags);
        Check.sentence("An ABSTRACT method in a class that isn't ABSTRACT may be",
                P04MemberTest::abstractInAnyClass);
        Check.sentence("A new field has no CONSTANT", P04MemberTest::noConstantAtFirst);
    }

    private static void refusals() {
        Check.sentence("REFUSED: the type is not defined", P04MemberTest::notDefined);
        Check.sentence("REFUSED: has 8 members", P04MemberTest::hasEight);
        Check.sentence("REFUSED: or one of this kind and key", P04MemberTest::hasThisOne);
        Check.sentence("REFUSED: a field with ABSTRACT", () -> dueRefused(9, 0, 16, 32));
        Check.sentence("REFUSED: a constructor with ABSTRACT", () -> dueRefused(9, 2, 16, 32));
        Check.sentence("REFUSED: a constructor with STATIC",
                () -> dueRefusedFor(9, 2, 4, 5, 6, 7, 12, 13, 14, 15));
        Check.sentence("REFUSED: a constructor with FINAL", () -> dueRefused(9, 2, 8, 16));
        Check.sentence("REFUSED: ABSTRACT together with PRIVATE",
                () -> dueRefusedFor(9, 1, 16, 20, 24, 28));
        Check.sentence("REFUSED: ABSTRACT together with STATIC", () -> dueRefused(9, 1, 20, 24));
        Check.sentence("REFUSED: ABSTRACT together with FINAL", () -> dueRefused(9, 1, 24, 32));
    }

    private static void inInterfaces() {
        Check.sentence("in an interface: a constructor", () -> dueRefused(7, 2, 0, 32));
        Check.sentence("in an interface: a field that is not PUBLIC",
                () -> dueRefusedFor(7, 0, 12, 13, 14));
        Check.sentence("in an interface: a field that is not STATIC",
                () -> dueRefusedFor(7, 0, 11, 10, 9, 8));
        Check.sentence("in an interface: a field that is not FINAL",
                () -> dueRefusedFor(7, 0, 7, 6, 5, 4, 3, 2, 1, 0));
        Check.sentence("in an interface: a method with FINAL",
                () -> dueRefusedFor(7, 1, 8, 11, 12, 15));
        Check.sentence("in an interface: a method neither PUBLIC nor PRIVATE",
                () -> dueRefusedFor(7, 1, 1, 2, 5, 6, 17, 18));
        Check.sentence("in an interface: a PUBLIC, STATIC and FINAL field and every other method "
                + "may be", P04MemberTest::goodInInterface);
    }

    private static void places() {
        for (int baseline = 0; baseline < 2; baseline++) {
            Judge x = new Judge();
            x.type(baseline, 11, 0, 1, -1);
            for (int place = 0; place < 8; place++) {
                Check.due(x.member(baseline, 11, place % 3, place, 3), place);
                Check.due(x.look(baseline, 11, place % 3, place), 11);
                Check.due(x.count(2 + baseline), place + 1);
                Check.due(x.count(3 - baseline), 0);
            }
            Check.due(x.drop(baseline, 11, 3), 7);
            Check.due(x.member(baseline, 11, 1, 99, 3), 7);
        }
        Check.range(0, 1, Rich::build, (x, n) -> x.member(n, 3, 1, 9, 3));
        Check.range(0, 11, x -> {
            x.type(0, 0, 1, 1, -1);
            x.type(0, 11, 1, 1, -1);
        }, (x, n) -> x.member(0, n, 1, 9, 3));
    }

    private static void kinds() {
        Check.range(0, 2, Rich::build, (x, n) -> x.member(0, 8, n, 3, 3));
        Check.range(0, 2, Rich::build, (x, n) -> x.member(1, 9, n, 0, 0));
        Check.range(0, 1, Rich::build, (x, n) -> x.member(1, 7, n, 0, n == 0 ? 15 : 3));
    }

    private static void keys() {
        int[] highest = {63, 511, 7};
        for (int each = 0; each < 3; each++) {
            int kind = each;
            Check.range(0, highest[kind], Rich::build, (x, n) -> x.member(0, 8, kind, n, 3));
            Check.range(0, highest[kind], Rich::build, (x, n) -> x.member(1, 8, kind, n, 0));
            Judge x = new Judge();
            x.type(1, 0, 0, 0, -1);
            Check.due(x.member(1, 0, kind, highest[kind], 0), 0);
            Check.due(x.member(1, 0, kind, 0, 0), 1);
            Check.due(x.look(1, 0, kind, highest[kind]), 0);
            Check.due(x.look(1, 0, kind, 0), 0);
            Check.due(x.look(1, 0, kind, 1), 12);
            Check.due(x.look(1, 0, kind, highest[kind] - 1), 12);
        }
        Check.refused(Rich::build, x -> x.member(0, 8, 0, 511, 3));
        Check.refused(Rich::build, x -> x.member(0, 8, 2, 63, 3));
    }

    private static void flags() {
        for (int each = 0; each < 3; each++) {
            int kind = each;
            Check.refusedOutside(0, 31, Rich::build, (x, n) -> x.member(0, 8, kind, 5, n));
            Check.refused(Rich::build, x -> x.member(0, 8, kind, 5, 35));
            Check.refused(Rich::build, x -> x.member(0, 8, kind, 5, -29));
        }
        Check.range(0, 15, Rich::build, (x, n) -> x.member(0, 8, 0, 5, n));
        Check.range(0, 19, Rich::build, (x, n) -> x.member(0, 8, 1, 5, n));
        Check.range(0, 3, Rich::build, (x, n) -> x.member(0, 8, 2, 5, n));
        Check.refused(Rich::build, x -> x.member(0, 8, 1, 5, 31));
    }

    private static void allGoodFlags() {
        for (int typeFlags = 0; typeFlags < 6; typeFlags++) {
            for (int flags = 0; flags < 32; flags++) {
                dueTaken(0, typeFlags, 0, flags, flags < 16);
                dueTaken(0, typeFlags, 1, flags, flags < 16 || flags >= 17 && flags <= 19);
                dueTaken(0, typeFlags, 2, flags, flags < 4);
            }
        }
    }

    private static void goodInInterface() {
        for (int typeFlags = 0; typeFlags < 2; typeFlags++) {
            for (int flags = 0; flags < 32; flags++) {
                dueTaken(1, typeFlags, 0, flags, flags == 15);
                dueTaken(1, typeFlags, 1, flags,
                        flags == 0 || flags == 3 || flags == 4 || flags == 7 || flags == 19);
                dueTaken(1, typeFlags, 2, flags, false);
            }
        }
    }

    private static void dueTaken(int typeKind, int typeFlags, int kind, int flags, boolean good) {
        Judge x = new Judge();
        x.type(0, 1, typeKind, typeFlags, -1);
        Check.due(x.member(0, 1, kind, 1, flags), good ? 0 : Check.REFUSED);
        Check.due(x.count(2), good ? 1 : 0);
        Check.due(x.look(0, 1, kind, 1), good ? 1 : 12);
    }

    private static void abstractInAnyClass() {
        for (int typeFlags = 0; typeFlags < 6; typeFlags++) {
            Judge x = new Judge();
            x.type(0, 1, 0, typeFlags, -1);
            for (int access = 1; access < 4; access++) {
                Check.due(x.member(0, 1, 1, access, 16 + access), access - 1);
            }
        }
    }

    private static void noConstantAtFirst() {
        Judge x = new Judge();
        x.type(0, 1, 0, 1, -1);
        x.member(0, 1, 0, 1, 3);
        Check.due(x.constant(0, 1, 0, 5), 0);
        x.drop(0, 1, 0);
        x.member(0, 1, 0, 1, 3);
        Check.due(x.constant(0, 1, 0, 5), 0);
        x.member(0, 1, 0, 2, 3);
        Check.due(x.constant(0, 1, 1, 5), 0);
    }

    private static void notDefined() {
        for (int kind = 0; kind < 3; kind++) {
            int each = kind;
            Check.refused(Check::nothing, x -> x.member(0, 0, each, 1, 3));
            Check.refused(Check::nothing, x -> x.member(1, 11, each, 1, 3));
            Check.refused(Rich::build, x -> x.member(0, 4, each, 1, 3));
            Check.refused(Rich::build, x -> x.member(0, 9, each, 1, 3));
            Check.refused(Rich::build, x -> x.member(1, 5, each, 1, 3));
        }
    }

    private static void hasEight() {
        for (int kind = 0; kind < 3; kind++) {
            int each = kind;
            Check.refused(Rich::build, x -> x.member(0, 11, each, 5, 3));
            Check.refused(Rich::build, x -> x.member(1, 11, each, 5, 3));
            Check.refused(Rich::build, x -> x.member(1, 11, each, 0, 3));
        }
        Judge x = new Judge();
        x.type(0, 6, 1, 1, -1);
        for (int key = 0; key < 8; key++) {
            Check.due(x.member(0, 6, key % 2, key, key % 2 == 0 ? 15 : 3), key);
        }
        Check.refused(x.member(0, 6, 1, 8, 3));
        Check.due(x.drop(0, 6, 7), 7);
        Check.due(x.member(0, 6, 1, 8, 3), 7);
        Check.refused(x.member(0, 6, 1, 9, 3));
    }

    private static void hasThisOne() {
        Check.Calls before = x -> {
            x.type(0, 3, 0, 1, -1);
            for (int kind = 0; kind < 3; kind++) {
                x.member(0, 3, kind, 5, 3);
            }
            x.type(0, 4, 0, 1, 3);
        };
        for (int kind = 0; kind < 3; kind++) {
            int each = kind;
            Check.refused(before, x -> x.member(0, 3, each, 5, 3));
            Check.refused(before, x -> x.member(0, 3, each, 5, 0));
            Judge x = new Judge();
            before.on(x);
            Check.due(x.member(0, 3, kind, 6, 3), 3);
            Check.due(x.member(0, 3, kind, 4, 3), 4);
            Check.due(x.member(0, 4, kind, 5, 3), 0);
            Check.due(x.drop(0, 3, kind), 4);
            Check.due(x.member(0, 3, kind, 5, 3), 4);
        }
        Check.refused(Rich::build, x -> x.member(0, 3, 0, 1, 3));
        Check.refused(Rich::build, x -> x.member(1, 3, 2, 7, 3));
        Judge one = new Judge();
        one.type(0, 3, 0, 1, -1);
        Check.due(one.member(0, 3, 0, 5, 3), 0);
        Check.due(one.member(0, 3, 1, 5, 3), 1);
        Check.due(one.member(0, 3, 2, 5, 3), 2);
    }

    private static void dueRefused(int type, int kind, int from, int below) {
        for (int flags = from; flags < below; flags++) {
            dueRefusedFor(type, kind, flags);
        }
    }

    /** Type 9 is a class without members, type 7 an interface without members. */
    private static void dueRefusedFor(int type, int kind, int... wrongFlags) {
        for (int flags : wrongFlags) {
            Check.refused(Rich::build, x -> x.member(1, type, kind, 5, flags));
        }
    }
}
