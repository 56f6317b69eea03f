/** The RULES and FINDINGS, as the terms tell them: each rule where it is broken and where not. */
final class RulesTest {
    private static final int STATIC = 4;
    private static final int FINAL = 8;
    private static final int ABSTRACT = 16;

    /** Whether a rule is broken by an open member with flags m and what is found with flags n. */
    private interface Broken {
        boolean by(int m, int n);
    }

    public static void main(String[] args) {
        types();
        oldMembers();
        newMembers();
        findings();
        Check.end();
    }

    private static void types() {
        Check.sentence("For every type t that is PUBLIC in OLD", RulesTest::publicInOld);
        Check.sentence("by rising numbers", RulesTest::risingNumbers);
        Check.sentence("0 (3) it is not defined, or not PUBLIC, in NEW", RulesTest::typeGone);
        Check.sentence("then no other rule is looked at for t", RulesTest::noOtherThanZero);
        Check.sentence("1 (3) it is of another kind in NEW", RulesTest::kindChanged);
        Check.sentence("then no other one either", RulesTest::noOtherThanOne);
        Check.sentence("2 (2) a class that is not ABSTRACT in OLD is so in NEW",
                () -> becameFlag(2, 2));
        Check.sentence("3 (2) likewise FINAL", () -> becameFlag(3, 4));
        Check.sentence("4 (3) for each supertype in OLD, by rising numbers, that is no supertype "
                + "in NEW; the DETAIL is its number", RulesTest::supertypeGone);
    }

    private static void oldMembers() {
        Check.sentence("all open members m of t in OLD, in their order", RulesTest::openInOrder);
        Check.sentence("the DETAIL is m's place (from 0) in OLD", RulesTest::placeInOld);
        Check.sentence("let n be what looking up in NEW from t gives for m's kind and key",
                RulesTest::lookedUpInNew);
        Check.sentence("5 (3) there is none", RulesTest::memberGone);
        Check.sentence("6 (3) its access is lower than m's", RulesTest::accessLowered);
        Check.sentence("7 (3) just one of m and n is STATIC", RulesTest::staticChanged);
        Check.sentence("8 (2) m is a field that is not FINAL, n is",
                RulesTest::fieldBecameFinal);
        Check.sentence("9 (1) m has a constant, and n has none or another",
                RulesTest::constantChanged);
        Check.sentence("10 (3) m is a method that is not ABSTRACT, n is",
                RulesTest::methodBecameAbstract);
        Check.sentence("11 (2) m is a method, neither STATIC nor FINAL, and n is FINAL",
                RulesTest::methodBecameFinal);
        Check.sentence("t is not FINAL in OLD", RulesTest::inFinalType);
    }

    private static void newMembers() {
        Check.sentence("all members n of t in NEW, in their order", RulesTest::newOnesInOrder);
        Check.sentence("that OLD's t has not with the same kind and key",
                RulesTest::oldHasItsOwn);
        Check.sentence("the DETAIL is n's place in NEW", RulesTest::placeInNew);
        Check.sentence("let m be what looking up in OLD from t gives for n's kind and key",
                RulesTest::lookedUpInOld);
        Check.sentence("12 (2) n is a field or method, m is there and open, and n's access is "
                + "lower than m's or just one of them is STATIC", RulesTest::inheritedNarrowed);
        Check.sentence("n is a field or method", RulesTest::constructorsAreNotInherited);
        Check.sentence("13 (1) n is an ABSTRACT method and there is no m",
                RulesTest::abstractMethodAdded);
    }

    private static void findings() {
        Check.sentence("FINDINGS stand by type, then rule, then in the order told",
                RulesTest::standInOrder);
        Check.sentence("A finding is SUPPRESSED if its rule is suppressed for its type",
                RulesTest::suppressed);
        Check.sentence("Findings are always those of the baselines and suppressions as they are",
                RulesTest::asTheyAre);
    }

    /** A public class 5 in OLD and NEW with one member of the kind, key 1, on each side. */
    private static Judge pair(int kind, int oldFlags, int newFlags) {
        return pairIn(1, 1, kind, oldFlags, newFlags);
    }

    private static Judge pairIn(int oldType, int newType, int kind, int oldFlags, int newFlags) {
        Judge x = new Judge();
        x.type(0, 5, 0, oldType, -1);
        x.type(1, 5, 0, newType, -1);
        Check.due(x.member(0, 5, kind, 1, oldFlags), 0);
        Check.due(x.member(1, 5, kind, 1, newFlags), 0);
        return x;
    }

    private static boolean isGood(int kind, int flags) {
        boolean isAbstract = (flags & ABSTRACT) != 0;
        switch (kind) {
            case 0:
                return !isAbstract;
            case 1:
                return !isAbstract || flags >= 17 && flags <= 19;
            default:
                return flags < 4;
        }
    }

    private static void dueForAllPairs(int rule, int kind, Broken broken) {
        for (int m = 0; m < 32; m++) {
            for (int n = 0; n < 32; n++) {
                if (isGood(kind, m) && isGood(kind, n)) {
                    Judge x = pair(kind, m, n);
                    boolean isOpen = m % 4 >= 2;
                    Check.due(x.byRule(rule), isOpen && broken.by(m, n) ? 1 : 0);
                }
            }
        }
    }

    private static void publicInOld() {
        Judge x = new Judge();
        x.type(0, 5, 0, 0, -1);
        x.member(0, 5, 1, 1, 3);
        Check.findings(x);
        x.type(1, 5, 1, 1, -1);
        x.type(1, 6, 1, 1, -1);
        Check.findings(x);
        x.remove(0, 5);
        x.type(0, 5, 0, 1, -1);
        Check.findings(x, "1 5 -1");
        x.remove(0, 5);
        Check.findings(x);
        Check.findings(new Judge());
    }

    private static void risingNumbers() {
        Judge x = new Judge();
        for (int type = 11; type >= 0; type--) {
            x.type(0, type, type % 2, 1, -1);
        }
        Check.due(x.findings(), 12);
        for (int type = 0; type < 12; type++) {
            Check.due(x.finding(type, 0), 0);
            Check.due(x.finding(type, 1), type);
        }
    }

    private static void typeGone() {
        for (int kind = 0; kind < 2; kind++) {
            Judge x = new Judge();
            x.type(0, 5, kind, 1, -1);
            Check.findings(x, "0 5 -1");
            Check.due(x.finding(0, 3), 3);
            x.type(1, 5, kind, 0, -1);
            Check.findings(x, "0 5 -1");
            x.remove(1, 5);
            x.type(1, 5, kind, 1, -1);
            Check.findings(x);
            x.remove(1, 5);
            x.type(1, 4, kind, 1, -1);
            x.type(1, 6, kind, 1, -1);
            Check.findings(x, "0 5 -1");
        }
    }

    /** Type 5 with a superclass, a field and a method, all of which NEW has otherwise. */
    private static Judge manyRules(int newKind, int newFlags) {
        Judge x = new Judge();
        x.type(0, 2, 0, 0, -1);
        x.type(0, 5, 0, 1, 2);
        x.member(0, 5, 1, 1, 3);
        x.member(0, 5, 0, 1, 3);
        x.constant(0, 5, 1, 1);
        x.type(1, 5, newKind, newFlags, -1);
        x.member(1, 5, 1, 1, 19);
        x.member(1, 5, 1, 2, 19);
        x.member(1, 5, 0, 1, 15);
        return x;
    }

    private static void noOtherThanZero() {
        Check.findings(manyRules(0, 3), "2 5 -1", "4 5 2", "7 5 1", "8 5 1", "9 5 1", "10 5 0",
                "13 5 1");
        Check.findings(manyRules(0, 2), "0 5 -1");
        Check.findings(manyRules(1, 0), "0 5 -1");
        Judge x = manyRules(0, 3);
        x.remove(1, 5);
        Check.findings(x, "0 5 -1");
    }

    private static void kindChanged() {
        for (int kind = 0; kind < 2; kind++) {
            Judge x = new Judge();
            x.type(0, 5, kind, 1, -1);
            x.type(1, 5, 1 - kind, 1, -1);
            Check.findings(x, "1 5 -1");
            Check.due(x.finding(0, 3), 3);
            x.remove(0, 5);
            x.type(0, 5, 1 - kind, 1, -1);
            Check.findings(x);
        }
    }

    private static void noOtherThanOne() {
        Check.findings(manyRules(1, 1), "1 5 -1");
        Judge x = manyRules(1, 1);
        x.swap();
        Check.findings(x, "1 5 -1");
    }

    private static void becameFlag(int rule, int flag) {
        for (int before = 0; before < 6; before++) {
            for (int after = 0; after < 6; after++) {
                Judge x = new Judge();
                x.type(0, 0, 0, before, -1);
                x.type(1, 0, 0, after, -1);
                boolean bothPublic = (before & after & 1) != 0;
                boolean became = (before & flag) == 0 && (after & flag) != 0;
                Check.due(x.byRule(rule), bothPublic && became ? 1 : 0);
                if (bothPublic && became) {
                    Check.findings(x, rule + " 0 -1");
                    Check.due(x.finding(0, 3), 2);
                }
            }
        }
    }

    private static void supertypeGone() {
        Judge x = new Judge();
        x.type(0, 0, 1, 0, -1);
        x.type(0, 1, 1, 0, -1);
        x.type(0, 2, 0, 0, -1);
        x.type(0, 3, 0, 0, 2);
        x.type(0, 9, 0, 1, 3);
        x.implement(0, 1, 0);
        x.implement(0, 9, 1);
        x.copy();
        Check.findings(x);
        x.remove(1, 9);
        x.type(1, 9, 0, 1, 2);
        Check.findings(x, "4 9 0", "4 9 1", "4 9 3");
        Check.due(x.finding(0, 3), 3);
        x.implement(1, 9, 0);
        Check.findings(x, "4 9 1", "4 9 3");
        x.type(1, 4, 1, 0, -1);
        x.implement(1, 9, 4);
        Check.findings(x, "4 9 1", "4 9 3");
        x.implement(1, 9, 1);
        Check.findings(x, "4 9 3");
        x.remove(1, 2);
        Check.findings(x, "4 9 2", "4 9 3");
        x.remove(0, 3);
        Check.findings(x);
        allSupertypesGone();
    }

    private static void allSupertypesGone() {
        Judge x = new Judge();
        for (int type = 0; type < 11; type++) {
            x.type(0, type, 0, 0, type - 1);
        }
        x.type(0, 11, 0, 1, 10);
        x.type(1, 11, 0, 1, 10);
        Check.findings(x, "4 11 0", "4 11 1", "4 11 2", "4 11 3", "4 11 4", "4 11 5", "4 11 6",
                "4 11 7", "4 11 8", "4 11 9", "4 11 10");
    }

    private static void openInOrder() {
        Judge x = new Judge();
        x.type(0, 5, 0, 1, -1);
        x.type(1, 5, 0, 1, -1);
        int[] flags = {3, 0, 2, 1, 3, 1, 0, 2};
        for (int place = 0; place < 8; place++) {
            x.member(0, 5, place % 3, 7 - place, flags[place]);
        }
        Check.findings(x, "5 5 0", "5 5 2", "5 5 4", "5 5 7");
        Judge none = new Judge();
        none.type(0, 5, 0, 1, -1);
        none.type(1, 5, 0, 1, -1);
        Check.findings(none);
    }

    private static void placeInOld() {
        Judge x = new Judge();
        x.type(0, 5, 0, 1, -1);
        x.type(1, 5, 0, 1, -1);
        for (int place = 0; place < 8; place++) {
            x.member(0, 5, 1, place, 3);
            x.member(1, 5, 1, 7 - place, place == 7 || place == 0 ? 7 : 3);
        }
        Check.findings(x, "7 5 0", "7 5 7");
        x.drop(0, 5, 3);
        Check.findings(x, "7 5 0", "7 5 6");
        x.drop(1, 5, 0);
        Check.findings(x, "5 5 6", "7 5 0");
    }

    private static void lookedUpInNew() {
        Judge x = new Judge();
        x.type(0, 1, 1, 0, -1);
        x.type(0, 2, 0, 0, -1);
        x.type(0, 5, 0, 1, 2);
        x.implement(0, 5, 1);
        x.member(0, 5, 1, 1, 3);
        x.member(0, 5, 0, 1, 15);
        x.copy();
        x.drop(1, 5, 0);
        x.drop(1, 5, 0);
        Check.findings(x, "5 5 0", "5 5 1");
        x.member(1, 2, 1, 1, 7);
        x.member(1, 2, 0, 1, 8);
        Check.findings(x, "6 5 1", "7 5 0", "7 5 1");
        x.member(1, 1, 1, 1, 19);
        x.member(1, 1, 0, 1, 15);
        Check.findings(x, "7 5 0");
        x.drop(1, 2, 0);
        Check.findings(x, "10 5 0");
        x.drop(1, 1, 0);
        Check.findings(x, "5 5 0");
    }

    private static void memberGone() {
        for (int kind = 0; kind < 3; kind++) {
            for (int access = 0; access < 4; access++) {
                Judge x = pair(kind, access, access);
                Check.findings(x);
                x.drop(1, 5, 0);
                Check.due(x.byRule(5), access >= 2 ? 1 : 0);
                x.member(1, 5, kind, 2, access);
                x.member(1, 5, (kind + 1) % 3, 1, access);
                Check.due(x.findings(), access >= 2 ? 1 : 0);
                Check.due(x.finding(0, 3), access >= 2 ? 3 : Check.REFUSED);
            }
        }
        Judge above = new Judge();
        above.type(0, 2, 0, 0, -1);
        above.type(0, 5, 0, 1, 2);
        for (int kind = 0; kind < 3; kind++) {
            above.member(0, 5, kind, 1, 3);
        }
        above.copy();
        for (int kind = 0; kind < 3; kind++) {
            above.drop(1, 5, 0);
            above.member(1, 2, kind, 1, 3);
        }
        Check.findings(above, "5 5 2");
    }

    private static void accessLowered() {
        for (int kind = 0; kind < 3; kind++) {
            dueForAllPairs(6, kind, (m, n) -> n % 4 < m % 4);
            Check.findings(pair(kind, 3, 2), "6 5 0");
            Check.findings(pair(kind, 2, 3));
            Check.due(pair(kind, 2, 1).finding(0, 3), 3);
        }
    }

    private static void staticChanged() {
        for (int kind = 0; kind < 3; kind++) {
            dueForAllPairs(7, kind, (m, n) -> (m & STATIC) != (n & STATIC));
        }
        for (int kind = 0; kind < 2; kind++) {
            Check.findings(pair(kind, 3, 7), "7 5 0");
            Check.findings(pair(kind, 7, 3), "7 5 0");
            Check.findings(pair(kind, 7, 7));
            Check.due(pair(kind, 3, 7).finding(0, 3), 3);
        }
    }

    private static void fieldBecameFinal() {
        dueForAllPairs(8, 0, (m, n) -> (m & FINAL) == 0 && (n & FINAL) != 0);
        dueForAllPairs(8, 1, (m, n) -> false);
        Check.findings(pair(0, 3, 11), "8 5 0");
        Check.findings(pair(0, 3, 12), "6 5 0", "7 5 0", "8 5 0");
        Check.due(pair(0, 3, 11).finding(0, 3), 2);
    }

    private static void constantChanged() {
        for (int access = 0; access < 4; access++) {
            int broken = access >= 2 ? 1 : 0;
            Judge x = pair(0, access, access);
            Check.due(x.findings(), 0);
            x.constant(1, 5, 0, 3);
            Check.due(x.findings(), 0);
            x.constant(0, 5, 0, 3);
            Check.due(x.findings(), 0);
            x.constant(1, 5, 0, 4);
            Check.due(x.byRule(9), broken);
            x.drop(1, 5, 0);
            Check.due(x.byRule(9), 0);
            x.member(1, 5, 0, 1, access);
            Check.due(x.byRule(9), broken);
            Check.due(x.findings(), broken);
            x.constant(1, 5, 0, 3);
            Check.due(x.byRule(9), 0);
        }
        Judge zero = pair(0, 3, 3);
        zero.constant(0, 5, 0, 0);
        Check.findings(zero, "9 5 0");
        Check.due(zero.finding(0, 3), 1);
    }

    private static void methodBecameAbstract() {
        dueForAllPairs(10, 1, (m, n) -> (m & ABSTRACT) == 0 && (n & ABSTRACT) != 0);
        Check.findings(pair(1, 3, 19), "10 5 0");
        Check.findings(pair(1, 19, 3));
        Check.findings(pair(1, 7, 18), "6 5 0", "7 5 0", "10 5 0");
        Check.due(pair(1, 3, 19).finding(0, 3), 3);
    }

    private static void methodBecameFinal() {
        dueForAllPairs(11, 1, (m, n) -> (m & (STATIC | FINAL)) == 0 && (n & FINAL) != 0);
        dueForAllPairs(11, 0, (m, n) -> false);
        Check.findings(pair(1, 3, 11), "11 5 0");
        Check.findings(pair(1, 7, 15));
        Check.findings(pair(1, 3, 15), "7 5 0", "11 5 0");
        Check.due(pair(1, 3, 11).finding(0, 3), 2);
    }

    private static void inFinalType() {
        Check.findings(pairIn(5, 5, 1, 3, 11));
        Check.findings(pairIn(5, 1, 1, 3, 11));
        Check.findings(pairIn(1, 5, 1, 3, 11), "3 5 -1", "11 5 0");
        Check.findings(pairIn(3, 3, 1, 3, 11), "11 5 0");
        Check.findings(pairIn(5, 5, 0, 3, 11), "8 5 0");
    }

    private static void newOnesInOrder() {
        Judge x = new Judge();
        x.type(0, 5, 0, 3, -1);
        x.type(1, 5, 0, 3, -1);
        Check.findings(x);
        int[] flags = {19, 3, 18, 17, 0, 19, 7, 17};
        for (int place = 0; place < 8; place++) {
            x.member(1, 5, 1, 7 - place, flags[place]);
        }
        Check.findings(x, "13 5 0", "13 5 2", "13 5 3", "13 5 5", "13 5 7");
    }

    /** Class 5 under class 2 that has the member; NEW's 5 has one of the same kind and key. */
    private static Judge override(int kind, int inherited, int added) {
        Judge x = new Judge();
        x.type(0, 2, 0, 0, -1);
        x.type(0, 5, 0, 1, 2);
        x.member(0, 2, kind, 1, inherited);
        x.copy();
        Check.due(x.member(1, 5, kind, 1, added), 0);
        return x;
    }

    private static void oldHasItsOwn() {
        for (int own = 0; own < 8; own++) {
            for (int kind = 0; kind < 2; kind++) {
                Judge x = override(kind, 3, 4);
                Check.findings(x, "12 5 0");
                x.member(0, 5, kind, 2, own);
                x.member(0, 5, 1 - kind, 1, own);
                Check.due(x.byRule(12), 1);
                x.member(0, 5, kind, 1, own);
                Check.due(x.byRule(12), 0);
            }
        }
        Judge x = override(1, 3, 3);
        x.member(1, 5, 1, 2, 19);
        Check.findings(x, "13 5 1");
        x.member(0, 5, 1, 2, 0);
        Check.findings(x);
    }

    private static void placeInNew() {
        Judge x = override(1, 3, 7);
        x.member(1, 5, 0, 9, 3);
        x.member(1, 5, 1, 9, 19);
        Check.findings(x, "12 5 0", "13 5 2");
        x.member(0, 5, 0, 9, 3);
        Check.findings(x, "12 5 0", "13 5 2");
        x.drop(1, 5, 1);
        Check.findings(x, "5 5 0", "12 5 0", "13 5 1");
        x.drop(1, 5, 0);
        Check.findings(x, "5 5 0", "13 5 0");
    }

    private static void lookedUpInOld() {
        Judge x = new Judge();
        x.type(0, 1, 1, 0, -1);
        x.type(0, 2, 0, 0, -1);
        x.type(0, 5, 0, 1, 2);
        x.implement(0, 5, 1);
        x.copy();
        x.member(1, 5, 1, 1, 17);
        Check.findings(x, "13 5 0");
        x.member(1, 2, 1, 1, 3);
        Check.findings(x, "13 5 0");
        x.member(0, 1, 1, 1, 19);
        Check.findings(x, "12 5 0");
        x.member(0, 2, 1, 1, 1);
        Check.findings(x);
        x.drop(0, 2, 0);
        x.drop(0, 1, 0);
        x.member(0, 1, 1, 1, 7);
        Check.findings(x, "13 5 0");
        x.member(1, 5, 0, 1, 3);
        Check.findings(x, "13 5 0");
        x.member(0, 1, 0, 1, 15);
        Check.findings(x, "12 5 1", "13 5 0");
    }

    private static void inheritedNarrowed() {
        for (int kind = 0; kind < 2; kind++) {
            for (int m = 0; m < 32; m++) {
                for (int n = 0; n < 32; n++) {
                    if (isGood(kind, m) && isGood(kind, n)) {
                        boolean broken = m % 4 >= 2
                                && (n % 4 < m % 4 || (m & STATIC) != (n & STATIC));
                        Judge x = override(kind, m, n);
                        Check.due(x.byRule(12), broken ? 1 : 0);
                        Check.due(x.findings(), broken ? 1 : 0);
                        Check.due(x.finding(0, 3), broken ? 2 : Check.REFUSED);
                    }
                }
            }
        }
    }

    private static void constructorsAreNotInherited() {
        for (int m = 0; m < 4; m++) {
            for (int n = 0; n < 4; n++) {
                Check.findings(override(2, m, n));
            }
        }
        Check.findings(override(0, 3, 2), "12 5 0");
        Check.findings(override(1, 3, 2), "12 5 0");
    }

    private static void abstractMethodAdded() {
        for (int kind = 0; kind < 3; kind++) {
            for (int flags = 0; flags < 32; flags++) {
                if (isGood(kind, flags)) {
                    Judge x = new Judge();
                    x.type(0, 5, 0, 1, -1);
                    x.copy();
                    x.member(1, 5, kind, 1, flags);
                    Check.due(x.findings(), flags >= ABSTRACT ? 1 : 0);
                    Check.due(x.finding(0, 0), flags >= ABSTRACT ? 13 : Check.REFUSED);
                    Check.due(x.finding(0, 3), flags >= ABSTRACT ? 1 : Check.REFUSED);
                }
            }
        }
        for (int m = 0; m < 20; m++) {
            if (isGood(1, m)) {
                Check.due(override(1, m, 19).byRule(13), 0);
            }
        }
    }

    private static void standInOrder() {
        Judge x = new Judge();
        x.type(0, 0, 1, 0, -1);
        x.type(0, 3, 0, 1, -1);
        x.member(0, 3, 1, 20, 3);
        x.type(0, 6, 0, 1, 3);
        x.implement(0, 6, 0);
        x.member(0, 6, 1, 1, 3);
        x.member(0, 6, 0, 1, 3);
        x.member(0, 6, 2, 1, 3);
        x.member(0, 6, 0, 2, 3);
        x.constant(0, 6, 1, 5);
        x.type(0, 7, 0, 1, -1);
        x.type(1, 3, 0, 1, -1);
        x.type(1, 6, 0, 3, -1);
        x.member(1, 3, 1, 20, 3);
        x.member(1, 6, 1, 9, 19);
        x.member(1, 6, 1, 8, 19);
        x.member(1, 6, 0, 2, 14);
        x.member(1, 6, 0, 1, 15);
        x.member(1, 6, 1, 20, 2);
        x.member(1, 6, 1, 1, 18);
        Check.findings(x, "2 6 -1", "4 6 0", "4 6 3", "5 6 2", "6 6 0", "6 6 3", "7 6 1",
                "7 6 3", "8 6 1", "8 6 3", "9 6 1", "10 6 0", "12 6 4", "13 6 0", "13 6 1",
                "0 7 -1");
    }

    private static void suppressed() {
        Judge x = new Judge();
        for (int type = 4; type < 6; type++) {
            x.type(0, type, 0, 1, -1);
            x.type(1, type, 0, 5, -1);
            x.member(0, type, 1, 1, 3);
            x.member(0, type, 1, 2, 3);
        }
        int[][] due = {{3, 4, 0}, {5, 4, 1}, {5, 4, 1}, {3, 5, 0}, {5, 5, 0}, {5, 5, 0}};
        x.suppress(5, 4, true);
        x.suppress(4, 5, true);
        for (int i = 0; i < 6; i++) {
            Check.due(x.finding(i, 0), due[i][0]);
            Check.due(x.finding(i, 1), due[i][1]);
            Check.due(x.finding(i, 4), due[i][2]);
        }
        Check.due(x.findings(), 6);
    }

    /** OLD and NEW have class 5 with a field, a method and one superinterface, and type 8. */
    private static void alike(Judge x) {
        x.type(0, 2, 1, 0, -1);
        x.type(0, 5, 0, 1, -1);
        x.member(0, 5, 0, 1, 3);
        x.member(0, 5, 1, 1, 3);
        x.type(0, 8, 0, 1, -1);
        x.copy();
        x.remove(1, 8);
    }

    private static void asTheyAre() {
        dueAfter(y -> y.type(0, 4, 0, 1, -1), 2, 0, 4, 3, 2);
        dueAfter(y -> y.type(1, 8, 0, 3, -1), 1, 2, 8, 2, 0);
        dueAfter(y -> y.implement(0, 5, 2), 2, 4, 5, 3, 1);
        dueAfter(y -> y.member(0, 5, 1, 2, 3), 2, 5, 5, 3, 1);
        dueAfter(y -> y.member(1, 5, 1, 2, 19), 2, 13, 5, 3, 1);
        dueAfter(y -> y.constant(0, 5, 0, 2), 2, 9, 5, 3, 1);
        dueAfter(y -> y.remove(1, 5), 2, 0, 5, 3, 2);
        dueAfter(y -> y.remove(0, 8), 0, -1, -1, 0, 0);
        dueAfter(y -> y.drop(1, 5, 0), 2, 5, 5, 3, 1);
        dueAfter(y -> y.copy(), 0, -1, -1, 0, 0);
        dueAfter(y -> y.swap(), 0, -1, -1, 0, 0);
        dueAfter(y -> y.suppress(0, 8, true), 1, 0, 8, 0, 0);
        Judge x = new Judge();
        alike(x);
        x.suppress(0, 8, true);
        Check.due(x.finding(0, 4), 1);
        x.suppress(0, 8, false);
        Check.due(x.finding(0, 4), 0);
        Check.due(x.verdict(), 3);
    }

    /** Each question comes first after the change once, as one could leave all of them right. */
    private static void dueAfter(Check.Calls change, int findings, int rule, int type,
            int verdict, int ofRule0) {
        for (int first = 0; first < 4; first++) {
            Judge x = new Judge();
            alike(x);
            Check.findings(x, "0 8 -1");
            Check.due(x.verdict(), 3);
            Check.due(x.byRule(0), 1);
            change.on(x);
            for (int question = first; question < first + 4; question++) {
                switch (question % 4) {
                    case 0:
                        Check.due(x.findings(), findings);
                        break;
                    case 1:
                        Check.due(x.finding(0, 0), rule);
                        Check.due(x.finding(0, 1), type);
                        break;
                    case 2:
                        Check.due(x.verdict(), verdict);
                        break;
                    default:
                        Check.due(x.byRule(0), ofRule0);
                }
            }
        }
    }
}
