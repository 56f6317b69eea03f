/** Promise 8: copy. */
final class P08CopyTest {
    public static void main(String[] args) {
        copiesEverything();
        theCopyStandsAlone();
        takesOutWhatOldHasNot();
        copiesFullTypes();
        Check.end();
    }

    private static void copiesFullTypes() {
        CompatibilityJudge x = new CompatibilityJudge();
        for (int type = 0; type < 12; type++) {
            x.type(0, type, 0, 1, -1);
            for (int key = 0; key < 8; key++) {
                x.member(0, type, 1, key, 3);
            }
        }
        Check.due(x.copy(), 12);
        Check.due(x.count(3), 96);
        Check.due(x.look(1, 11, 1, 7), 11);
        Check.dueFindings(x);
    }

    private static CompatibilityJudge filled() {
        CompatibilityJudge x = new CompatibilityJudge();
        x.type(0, 0, 1, 1, -1);
        x.type(0, 2, 0, 3, -1);
        x.type(0, 4, 0, 5, 2);
        x.implement(0, 4, 3);
        x.implement(0, 4, 0);
        x.member(0, 4, 0, 1, 3);
        x.constant(0, 4, 0, 77);
        x.member(0, 4, 1, 1, 11);
        x.member(0, 2, 2, 1, 2);
        x.suppress(3, 4, true);
        return x;
    }

    private static void copiesEverything() {
        CompatibilityJudge x = filled();
        Check.due(x.copy(), 3);
        Check.dueFindings(x);
        x.swap();
        Check.dueFindings(x);
        Check.due(x.count(3), x.count(2));
        Check.due(x.supertypes(0, 4), 5);
        Check.due(x.supertypes(1, 4), 5);
        Check.due(x.constant(0, 4, 0, 77), 1);
        Check.due(x.constant(1, 4, 0, 77), 1);
        Check.due(x.type(0, 3, 1, 1, -1) + x.type(1, 3, 1, 1, -1), 2);
        Check.due(x.supertypes(0, 4), 13);
        Check.due(x.supertypes(1, 4), 13);
        Check.due(x.implement(0, 4, 1), 3);
        Check.due(x.implement(1, 4, 1), 3);
        Check.due(x.count(4), 1);
        Check.due(new CompatibilityJudge().copy(), 0);
    }

    private static void theCopyStandsAlone() {
        CompatibilityJudge x = filled();
        x.copy();
        x.drop(0, 4, 1);
        x.constant(0, 4, 0, 78);
        x.implement(0, 4, 1);
        x.member(0, 4, 1, 2, 3);
        x.type(0, 1, 1, 1, -1);
        Check.due(x.count(1), 3);
        Check.due(x.count(3), 3);
        Check.due(x.look(1, 4, 1, 1), 4);
        Check.due(x.look(1, 4, 1, 2), 12);
        Check.due(x.supertypes(0, 4), 7);
        Check.due(x.supertypes(1, 4), 5);
        Check.dueFindings(x, "0 1 -1", "4 4 1", "5 4 1", "9 4 0");
        Check.due(x.copy(), 4);
        Check.dueFindings(x);
    }

    private static void takesOutWhatOldHasNot() {
        CompatibilityJudge x = filled();
        x.type(1, 4, 1, 0, -1);
        x.type(1, 7, 0, 1, -1);
        for (int key = 0; key < 8; key++) {
            x.member(1, 7, 1, key, 3);
            x.member(1, 4, 1, key, 3);
        }
        Check.due(x.copy(), 3);
        Check.due(x.count(1), 3);
        Check.due(x.count(3), 3);
        Check.due(x.look(1, 7, 1, 0), 12);
        Check.due(x.look(1, 4, 1, 7), 12);
        Check.due(x.remove(1, 7), Check.REFUSED);
        Check.dueFindings(x);
    }
}
