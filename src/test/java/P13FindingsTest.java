/** Promise 13: findings, and the RULES of the terms, each where it is broken and where not. */
final class P13FindingsTest {
    public static void main(String[] args) {
        typesThatAreNotPublicInOld();
        typeGone();
        kindChanged();
        becameAbstractOrFinal();
        supertypeGone();
        memberGone();
        accessLowered();
        staticChanged();
        fieldBecameFinal();
        constantChanged();
        methodBecameAbstract();
        methodBecameFinal();
        inheritedNarrowed();
        abstractMethodAdded();
        suppressedOnesCountToo();
        standInOrder();
        manyAtOnce();
        Check.end();
    }

    /** A public class 5 in OLD and NEW with one member of the kind, key 1, on each side. */
    private static CompatibilityJudge pair(int kind, int oldFlags, int newFlags) {
        CompatibilityJudge x = new CompatibilityJudge();
        x.type(0, 5, 0, 1, -1);
        x.type(1, 5, 0, 1, -1);
        Check.due(x.member(0, 5, kind, 1, oldFlags), 0);
        Check.due(x.member(1, 5, kind, 1, newFlags), 0);
        return x;
    }

    private static void typesThatAreNotPublicInOld() {
        CompatibilityJudge x = new CompatibilityJudge();
        x.type(0, 5, 0, 0, -1);
        x.member(0, 5, 1, 1, 3);
        Check.dueFindings(x);
        x.type(1, 5, 1, 1, -1);
        x.type(1, 6, 1, 1, -1);
        Check.dueFindings(x);
    }

    private static void typeGone() {
        CompatibilityJudge x = new CompatibilityJudge();
        x.type(0, 5, 0, 1, -1);
        x.member(0, 5, 1, 1, 3);
        Check.dueFindings(x, "0 5 -1");
        x.type(1, 5, 0, 0, -1);
        Check.dueFindings(x, "0 5 -1");
        x.remove(1, 5);
        x.type(1, 5, 1, 0, -1);
        Check.dueFindings(x, "0 5 -1");
        x.remove(1, 5);
        x.type(1, 5, 0, 1, -1);
        Check.dueFindings(x, "5 5 0");
    }

    private static void kindChanged() {
        CompatibilityJudge x = new CompatibilityJudge();
        x.type(0, 2, 0, 1, -1);
        x.type(0, 5, 0, 1, 2);
        x.member(0, 5, 1, 1, 3);
        x.type(1, 2, 0, 1, -1);
        x.type(1, 5, 1, 1, -1);
        Check.dueFindings(x, "1 5 -1");
        x.swap();
        x.member(0, 5, 1, 2, 3);
        Check.dueFindings(x, "1 5 -1");
    }

    private static void becameAbstractOrFinal() {
        String[][] due = {
            {"", "", "A", "A", "F", "F"},
            {"", "", "A", "A", "F", "F"},
            {"", "", "", "", "F", "F"},
            {"", "", "", "", "F", "F"},
            {"", "", "A", "A", "", ""},
            {"", "", "A", "A", "", ""},
        };
        for (int before = 1; before < 6; before += 2) {
            for (int after = 1; after < 6; after += 2) {
                CompatibilityJudge x = new CompatibilityJudge();
                x.type(0, 0, 0, before, -1);
                x.type(1, 0, 0, after, -1);
                switch (due[before][after]) {
                    case "A":
                        Check.dueFindings(x, "2 0 -1");
                        break;
                    case "F":
                        Check.dueFindings(x, "3 0 -1");
                        break;
                    default:
                        Check.dueFindings(x);
                }
            }
        }
    }

    private static void supertypeGone() {
        CompatibilityJudge x = new CompatibilityJudge();
        x.type(0, 0, 1, 0, -1);
        x.type(0, 1, 1, 0, -1);
        x.type(0, 2, 0, 0, -1);
        x.type(0, 3, 0, 0, 2);
        x.type(0, 9, 0, 1, 3);
        x.implement(0, 1, 0);
        x.implement(0, 9, 1);
        x.copy();
        Check.dueFindings(x);
        x.remove(1, 9);
        x.type(1, 9, 0, 1, 2);
        Check.dueFindings(x, "4 9 0", "4 9 1", "4 9 3");
        x.implement(1, 9, 0);
        Check.dueFindings(x, "4 9 1", "4 9 3");
        x.type(1, 4, 1, 0, -1);
        x.implement(1, 9, 4);
        Check.dueFindings(x, "4 9 1", "4 9 3");
        x.implement(1, 9, 1);
        Check.dueFindings(x, "4 9 3");
        x.remove(1, 2);
        Check.dueFindings(x, "4 9 2", "4 9 3");
        x.remove(0, 3);
        Check.dueFindings(x);
    }

    private static void memberGone() {
        for (int kind = 0; kind < 3; kind++) {
            for (int access = 0; access < 4; access++) {
                CompatibilityJudge x = pair(kind, access, access);
                Check.dueFindings(x);
                x.drop(1, 5, 0);
                if (access >= 2) {
                    Check.dueFindings(x, "5 5 0");
                } else {
                    Check.dueFindings(x);
                }
                x.member(1, 5, kind, 2, access);
                Check.due(x.findings(), access >= 2 ? 1 : 0);
            }
        }
        CompatibilityJudge moved = new CompatibilityJudge();
        moved.type(0, 2, 0, 0, -1);
        moved.type(0, 5, 0, 1, 2);
        for (int kind = 0; kind < 3; kind++) {
            moved.member(0, 5, kind, 1, 3);
        }
        moved.copy();
        for (int kind = 0; kind < 3; kind++) {
            moved.drop(1, 5, 0);
            moved.member(1, 2, kind, 1, 3);
        }
        Check.dueFindings(moved, "5 5 2");
    }

    private static void accessLowered() {
        for (int kind = 0; kind < 3; kind++) {
            for (int before = 0; before < 4; before++) {
                for (int after = 0; after < 4; after++) {
                    CompatibilityJudge x = pair(kind, before, after);
                    if (before >= 2 && after < before) {
                        Check.dueFindings(x, "6 5 0");
                    } else {
                        Check.dueFindings(x);
                    }
                }
            }
        }
    }

    private static void staticChanged() {
        for (int kind = 0; kind < 2; kind++) {
            Check.dueFindings(pair(kind, 3, 7), "7 5 0");
            Check.dueFindings(pair(kind, 7, 3), "7 5 0");
            Check.dueFindings(pair(kind, 2, 6), "7 5 0");
            Check.dueFindings(pair(kind, 7, 7));
            Check.dueFindings(pair(kind, 1, 5));
        }
    }

    private static void fieldBecameFinal() {
        Check.dueFindings(pair(0, 3, 11), "8 5 0");
        Check.dueFindings(pair(0, 7, 15), "8 5 0");
        Check.dueFindings(pair(0, 11, 11));
        Check.dueFindings(pair(0, 11, 3));
        Check.dueFindings(pair(0, 1, 9));
        Check.dueFindings(pair(0, 3, 12), "6 5 0", "7 5 0", "8 5 0");
    }

    private static void constantChanged() {
        CompatibilityJudge x = pair(0, 11, 11);
        x.constant(1, 5, 0, 3);
        Check.dueFindings(x);
        x.constant(0, 5, 0, 3);
        Check.dueFindings(x);
        x.constant(1, 5, 0, 4);
        Check.dueFindings(x, "9 5 0");
        x.drop(1, 5, 0);
        Check.dueFindings(x, "5 5 0");
        x.member(1, 5, 0, 1, 11);
        Check.dueFindings(x, "9 5 0");
        x.constant(1, 5, 0, 3);
        Check.dueFindings(x);
        CompatibilityJudge hidden = pair(0, 9, 9);
        hidden.constant(0, 5, 0, 3);
        Check.dueFindings(hidden);
    }

    private static void methodBecameAbstract() {
        Check.dueFindings(pair(1, 3, 19), "10 5 0");
        Check.dueFindings(pair(1, 11, 19), "10 5 0");
        Check.dueFindings(pair(1, 7, 18), "6 5 0", "7 5 0", "10 5 0");
        Check.dueFindings(pair(1, 19, 19));
        Check.dueFindings(pair(1, 19, 3));
        Check.dueFindings(pair(1, 1, 17));
    }

    private static void methodBecameFinal() {
        Check.dueFindings(pair(1, 3, 11), "11 5 0");
        Check.dueFindings(pair(1, 19, 11), "11 5 0");
        Check.dueFindings(pair(1, 7, 15));
        Check.dueFindings(pair(1, 7, 11), "7 5 0");
        Check.dueFindings(pair(1, 3, 15), "7 5 0", "11 5 0");
        Check.dueFindings(pair(1, 11, 11));
        Check.dueFindings(pair(1, 11, 3));
        Check.dueFindings(pair(1, 1, 9));
        CompatibilityJudge x = pair(1, 3, 11);
        x.remove(1, 5);
        x.type(1, 5, 0, 5, -1);
        x.member(1, 5, 1, 1, 11);
        Check.dueFindings(x, "3 5 -1", "11 5 0");
        x.remove(0, 5);
        x.type(0, 5, 0, 5, -1);
        x.member(0, 5, 1, 1, 3);
        Check.dueFindings(x);
    }

    /** Class 5 under class 2 that has the member; NEW's 5 has one of the same kind and key. */
    private static CompatibilityJudge override(int kind, int inherited, int added) {
        CompatibilityJudge x = new CompatibilityJudge();
        x.type(0, 2, 0, 0, -1);
        x.type(0, 5, 0, 1, 2);
        x.member(0, 2, kind, 1, inherited);
        x.copy();
        Check.due(x.member(1, 5, kind, 1, added), 0);
        return x;
    }

    private static void inheritedNarrowed() {
        for (int kind = 0; kind < 2; kind++) {
            for (int before = 0; before < 8; before++) {
                for (int after = 0; after < 8; after++) {
                    boolean open = (before & 3) >= 2;
                    boolean lower = (after & 3) < (before & 3);
                    boolean other = (before & 4) != (after & 4);
                    CompatibilityJudge x = override(kind, before, after);
                    if (open && (lower || other)) {
                        Check.dueFindings(x, "12 5 0");
                    } else {
                        Check.dueFindings(x);
                    }
                    x.member(0, 5, kind, 1, 0);
                    Check.dueFindings(x);
                }
            }
        }
        Check.dueFindings(override(2, 3, 0));
    }

    private static void abstractMethodAdded() {
        CompatibilityJudge x = new CompatibilityJudge();
        x.type(0, 0, 1, 1, -1);
        x.type(0, 1, 1, 1, -1);
        x.implement(0, 1, 0);
        x.copy();
        x.member(1, 1, 1, 2, 3);
        Check.dueFindings(x);
        x.member(1, 1, 1, 3, 19);
        x.member(1, 1, 0, 3, 15);
        Check.dueFindings(x, "13 1 1");
        x.member(0, 0, 1, 3, 7);
        Check.dueFindings(x, "5 0 0", "13 1 1");
        x.drop(0, 0, 0);
        x.member(0, 0, 1, 3, 3);
        Check.dueFindings(x, "5 0 0");
        x.drop(0, 0, 0);
        x.member(0, 1, 1, 3, 0);
        Check.dueFindings(x);
        x.drop(0, 1, 0);
        x.member(0, 1, 0, 3, 15);
        Check.dueFindings(x, "13 1 1");
        Check.dueFindings(override(1, 0, 17));
        Check.dueFindings(override(0, 0, 15));
    }

    private static void suppressedOnesCountToo() {
        CompatibilityJudge x = pair(1, 3, 4);
        Check.due(x.findings(), 2);
        x.suppress(6, 5, true);
        x.suppress(7, 5, true);
        Check.due(x.findings(), 2);
        x.drop(0, 5, 0);
        Check.due(x.findings(), 0);
    }

    private static void standInOrder() {
        CompatibilityJudge x = new CompatibilityJudge();
        x.type(0, 0, 1, 0, -1);
        x.type(0, 3, 0, 1, -1);
        x.member(0, 3, 1, 20, 3);
        x.type(0, 6, 0, 1, 3);
        x.implement(0, 6, 0);
        x.member(0, 6, 1, 1, 3);
        x.member(0, 6, 0, 1, 3);
        x.member(0, 6, 2, 1, 3);
        x.member(0, 6, 0, 2, 3);
        x.constant(0, 6, 1, 5);
        x.type(0, 7, 0, 1, -1);
        x.type(1, 3, 0, 1, -1);
        x.type(1, 6, 0, 3, -1);
        x.member(1, 3, 1, 20, 3);
        x.member(1, 6, 1, 9, 19);
        x.member(1, 6, 1, 8, 19);
        x.member(1, 6, 0, 2, 14);
        x.member(1, 6, 0, 1, 15);
        x.member(1, 6, 1, 20, 2);
        x.member(1, 6, 1, 1, 18);
        Check.dueFindings(x, "2 6 -1", "4 6 0", "4 6 3", "5 6 2", "6 6 0", "6 6 3", "7 6 1",
                "7 6 3", "8 6 1", "8 6 3", "9 6 1", "10 6 0", "12 6 4", "13 6 0", "13 6 1",
                "0 7 -1");
    }

    /** Every field breaks four rules and every type has lost all that it stood under. */
    private static void manyAtOnce() {
        CompatibilityJudge x = new CompatibilityJudge();
        for (int type = 0; type < 12; type++) {
            x.type(0, type, 0, 1, type - 1);
            x.type(1, type, 0, 5, -1);
            for (int place = 0; place < 8; place++) {
                x.member(0, type, 0, place, 3);
                x.constant(0, type, place, 1);
                x.member(1, type, 0, place, 12);
            }
        }
        Check.due(x.findings(), 12 + 66 + 12 * 8 * 4);
        Check.due(x.finding(461, 0), 9);
        Check.due(x.finding(461, 1), 11);
        Check.due(x.finding(461, 2), 7);
        Check.due(x.finding(462, 0), Check.REFUSED);
        Check.due(x.byRule(4), 66);
        Check.due(x.byRule(8), 96);
    }
}
