/** Promise 8: copy. */
final class P08CopyTest {
    public static void main(String[] args) {
        Check.sentence("Makes NEW a copy of OLD", P08CopyTest::copiesEverything);
        Check.sentence("a copy: it stands alone", P08CopyTest::standsAlone);
        Check.sentence("a copy: what OLD has not is gone", P08CopyTest::takesOut);
        Check.sentence("answers how many types it has", P08CopyTest::howMany);
        Check.sentence("a copy of an empty OLD", P08CopyTest::empty);
        Check.sentence("a copy of a full OLD", P08CopyTest::full);
        Check.sentence("suppressions are of no baseline", P08CopyTest::suppressionsStay);
        Check.end();
    }

    private static void filled(Judge x) {
        x.type(0, 0, 1, 1, -1);
        x.type(0, 2, 0, 3, -1);
        x.type(0, 4, 0, 5, 2);
        x.implement(0, 4, 3);
        x.implement(0, 4, 0);
        x.member(0, 4, 0, 1, 3);
        x.constant(0, 4, 0, 77);
        x.member(0, 4, 1, 1, 11);
        x.member(0, 4, 0, 2, 3);
        x.member(0, 2, 2, 1, 2);
        x.suppress(3, 4, true);
    }

    private static void copiesEverything() {
        Judge x = new Judge();
        filled(x);
        Check.due(x.copy(), 3);
        Check.findings(x);
        x.swap();
        Check.findings(x);
        for (int baseline = 0; baseline < 2; baseline++) {
            Check.due(x.count(baseline), 3);
            Check.due(x.count(2 + baseline), 4);
            Check.due(x.supertypes(baseline, 4), 5);
            Check.due(x.constant(baseline, 4, 0, 77), 1);
            Check.due(x.constant(baseline, 4, 2, 77), 0);
            Check.refused(x.constant(baseline, 4, 1, 77));
            Check.due(x.look(baseline, 4, 1, 1), 4);
            Check.due(x.look(baseline, 2, 2, 1), 2);
            Check.due(x.type(baseline, 3, 1, 1, -1), 1);
            Check.due(x.supertypes(baseline, 4), 13);
            Check.due(x.implement(baseline, 4, 1), 3);
        }
    }

    private static void standsAlone() {
        Judge x = new Judge();
        filled(x);
        x.copy();
        x.drop(0, 4, 1);
        x.constant(0, 4, 0, 78);
        x.implement(0, 4, 1);
        x.member(0, 4, 1, 2, 3);
        x.type(0, 1, 1, 1, -1);
        Check.due(x.count(1), 3);
        Check.due(x.count(3), 4);
        Check.due(x.look(1, 4, 1, 1), 4);
        Check.due(x.look(1, 4, 1, 2), 12);
        Check.due(x.supertypes(0, 4), 7);
        Check.due(x.supertypes(1, 4), 5);
        Check.findings(x, "0 1 -1", "4 4 1", "5 4 2", "9 4 0");
        Check.due(x.copy(), 4);
        Check.findings(x);
        x.drop(1, 4, 0);
        x.remove(1, 0);
        Check.due(x.count(0), 4);
        Check.due(x.look(0, 4, 0, 1), 4);
        Check.due(x.supertypes(0, 4), 7);
    }

    private static void takesOut() {
        Judge x = new Judge();
        filled(x);
        x.type(1, 4, 1, 0, -1);
        x.type(1, 7, 0, 1, 6);
        x.implement(1, 4, 1);
        x.implement(1, 7, 4);
        for (int key = 0; key < 8; key++) {
            x.member(1, 7, 0, key, 3);
            x.constant(1, 7, key, 1);
            x.member(1, 4, 0, key, 15);
            x.constant(1, 4, key, 1);
        }
        Check.due(x.copy(), 3);
        Check.due(x.count(1), 3);
        Check.due(x.count(3), 4);
        Check.due(x.look(1, 7, 0, 0), 12);
        Check.due(x.look(1, 4, 0, 7), 12);
        Check.refused(x.remove(1, 7));
        Check.refused(x.drop(1, 4, 3));
        Check.findings(x);
        x.swap();
        Check.findings(x);
        Check.due(x.constant(0, 4, 2, 1), 0);
        Check.due(x.type(0, 7, 0, 1, -1), 1);
        Check.due(x.supertypes(0, 7), 0);
        Check.due(x.member(0, 7, 0, 1, 3), 0);
        Check.due(x.constant(0, 7, 0, 1), 0);
    }

    private static void howMany() {
        Judge x = new Judge();
        for (int type = 0; type < 12; type++) {
            Check.due(x.copy(), type);
            Check.due(x.count(1), type);
            x.type(0, type, type % 2, type / 2 % 2, -1);
        }
        Check.due(x.copy(), 12);
        x.remove(0, 5);
        Check.due(x.copy(), 11);
        x.remove(1, 6);
        Check.due(x.copy(), 11);
    }

    private static void empty() {
        Judge x = new Judge();
        Check.due(x.copy(), 0);
        x.type(1, 3, 0, 1, -1);
        x.member(1, 3, 1, 1, 3);
        Check.due(x.copy(), 0);
        Check.due(x.count(1), 0);
        Check.due(x.count(3), 0);
        Check.refused(x.remove(1, 3));
    }

    private static void full() {
        Judge x = new Judge();
        for (int type = 0; type < 12; type++) {
            x.type(0, type, 0, 1, -1);
            for (int key = 0; key < 8; key++) {
                x.member(0, type, 1, key, 3);
            }
            for (int other = 0; other < 3; other++) {
                x.implement(0, type, other);
            }
        }
        Check.due(x.copy(), 12);
        Check.due(x.count(3), 96);
        Check.findings(x);
        for (int type = 0; type < 12; type++) {
            Check.due(x.look(1, type, 1, 7), type);
            Check.refused(x.member(1, type, 1, 8, 3));
            Check.refused(x.implement(1, type, 2));
        }
    }

    private static void suppressionsStay() {
        Judge x = new Judge();
        filled(x);
        x.suppress(13, 11, true);
        x.copy();
        Check.due(x.count(4), 2);
        Check.due(x.suppress(3, 4, true), 0);
        Check.due(x.suppress(13, 11, true), 0);
    }
}
