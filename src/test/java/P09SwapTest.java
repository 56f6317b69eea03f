/** Promise 9: swap. */
final class P09SwapTest {
    public static void main(String[] args) {
        Check.sentence("OLD becomes NEW and NEW becomes OLD", P09SwapTest::sidesChange);
        Check.sentence("findings are those of the sides as they are then",
                P09SwapTest::findingsChange);
        Check.sentence("changes go to the sides as they are then", P09SwapTest::changesAfter);
        Check.sentence("twice is as if not at all", P09SwapTest::twice);
        Check.sentence("of empty baselines", P09SwapTest::empty);
        Check.sentence("suppressions are of no baseline", P09SwapTest::suppressionsStay);
        Check.end();
    }

    private static void build(Judge x) {
        x.type(0, 1, 0, 1, -1);
        x.type(0, 2, 0, 1, 1);
        x.member(0, 2, 1, 5, 3);
        x.type(1, 1, 0, 5, -1);
        x.type(1, 3, 1, 1, -1);
        x.type(1, 4, 1, 1, -1);
        x.suppress(0, 3, true);
    }

    private static void sidesChange() {
        Judge x = new Judge();
        build(x);
        x.swap();
        Check.due(x.count(0), 3);
        Check.due(x.count(1), 2);
        Check.due(x.count(2), 0);
        Check.due(x.count(3), 1);
        Check.due(x.look(0, 2, 1, 5), 12);
        Check.due(x.look(1, 2, 1, 5), 2);
        Check.due(x.supertypes(0, 2), 0);
        Check.due(x.supertypes(1, 2), 2);
        Check.refused(x.remove(1, 3));
        Check.due(x.remove(0, 3), 1);
    }

    private static void findingsChange() {
        Judge x = new Judge();
        build(x);
        Check.findings(x, "3 1 -1", "0 2 -1");
        x.swap();
        Check.findings(x, "0 3 -1", "0 4 -1");
        Check.due(x.finding(0, 4), 1);
        Check.due(x.byRule(0), 1);
        x.swap();
        Check.findings(x, "3 1 -1", "0 2 -1");
    }

    private static void changesAfter() {
        Judge x = new Judge();
        build(x);
        x.swap();
        Check.due(x.type(0, 2, 0, 1, -1), 1);
        Check.refused(x.type(1, 2, 0, 1, -1));
        Check.due(x.drop(1, 2, 0), 0);
        Check.due(x.member(0, 2, 1, 5, 3), 0);
        Check.findings(x, "5 2 0", "0 3 -1", "0 4 -1");
        Check.due(x.copy(), 4);
        Check.findings(x);
        Check.due(x.supertypes(1, 2), 0);
        Check.due(x.look(1, 2, 1, 5), 2);
    }

    private static void twice() {
        for (Check.Calls after : Questions.PARTS) {
            Judge swapped = new Judge();
            Rich.build(swapped);
            swapped.swap();
            swapped.swap();
            swapped.takeAnswers();
            after.on(swapped);
            Judge left = new Judge();
            Rich.build(left);
            left.takeAnswers();
            after.on(left);
            Check.same(swapped.takeAnswers(), left.takeAnswers());
        }
    }

    private static void empty() {
        Judge x = new Judge();
        x.swap();
        for (int what = 0; what < 5; what++) {
            Check.due(x.count(what), 0);
        }
        Check.findings(x);
        x.type(0, 6, 0, 1, -1);
        x.swap();
        Check.due(x.count(0), 0);
        Check.due(x.count(1), 1);
        Check.findings(x);
    }

    private static void suppressionsStay() {
        Judge x = new Judge();
        build(x);
        x.swap();
        Check.due(x.count(4), 1);
        Check.due(x.suppress(0, 3, true), 0);
        Check.due(x.suppress(0, 3, false), 1);
    }
}
