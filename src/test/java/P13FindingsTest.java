/** Promise 13: findings; the rules have a test of their own. */
final class P13FindingsTest {
    public static void main(String[] args) {
        Check.sentence("How many findings there are", P13FindingsTest::howMany);
        Check.sentence("suppressed ones too", P13FindingsTest::suppressedOnesToo);
        Check.sentence("of empty baselines, or where nothing is broken: none",
                P13FindingsTest::none);
        Check.sentence("very many of them", P13FindingsTest::veryMany);
        Check.sentence("asking changes nothing", P13FindingsTest::askingChangesNothing);
        Check.end();
    }

    private static void howMany() {
        Judge x = new Judge();
        for (int type = 0; type < 12; type++) {
            Check.due(x.findings(), type);
            x.type(0, type, 0, 1, -1);
        }
        Check.due(x.findings(), 12);
        for (int type = 0; type < 12; type++) {
            x.type(1, type, 0, 1, -1);
            Check.due(x.findings(), 11 - type);
        }
        for (int place = 0; place < 8; place++) {
            x.member(0, 6, 1, place, 3);
            Check.due(x.findings(), place + 1);
        }
        x.remove(1, 6);
        Check.due(x.findings(), 1);
    }

    private static void suppressedOnesToo() {
        Judge x = new Judge();
        Rich.build(x);
        Check.due(x.findings(), 3);
        for (int rule = 0; rule < 14; rule++) {
            for (int type = 0; type < 12; type++) {
                x.suppress(rule, type, true);
            }
        }
        Check.due(x.verdict(), 0);
        Check.due(x.findings(), 3);
        x.suppress(5, 3, false);
        Check.due(x.findings(), 3);
    }

    private static void none() {
        Judge x = new Judge();
        Check.due(x.findings(), 0);
        Rich.build(x);
        x.copy();
        Check.due(x.findings(), 0);
        x.swap();
        Check.due(x.findings(), 0);
        for (int type = 0; type < 12; type++) {
            x.remove(0, type);
        }
        Check.due(x.findings(), 0);
    }

    /**
     * The fields of every class break four rules each, in NEW being found in class 0, the classes
     * have lost all other classes above them, are FINAL then and have 8 new methods each.
     */
    private static void veryMany() {
        Judge x = new Judge();
        for (int type = 0; type < 12; type++) {
            x.type(0, type, 0, 1, type < 2 ? -1 : type - 1);
            x.type(1, type, 0, 5, type == 0 ? -1 : 0);
            for (int place = 0; place < 8; place++) {
                x.member(0, type, 0, place, 3);
                x.constant(0, type, place, 1);
                x.member(1, type, type == 0 ? 0 : 1, place, type == 0 ? 12 : 19);
            }
        }
        Check.due(x.findings(), 12 + 55 + 12 * 8 * 4 + 11 * 8);
        int[][] due = {{32, 9, 0, 7}, {33, 3, 1, -1}, {74, 3, 2, -1}, {75, 4, 2, 1},
            {538, 13, 11, 7}, {530, 9, 11, 7}};
        for (int[] each : due) {
            for (int what = 0; what < 3; what++) {
                Check.due(x.finding(each[0], what), each[1 + what]);
            }
        }
        Check.refused(x.finding(539, 0));
        Check.due(x.byRule(3), 12);
        Check.due(x.byRule(4), 55);
        for (int rule = 6; rule < 10; rule++) {
            Check.due(x.byRule(rule), 96);
        }
        Check.due(x.byRule(13), 88);
        Check.due(x.verdict(), 3);
    }

    private static void askingChangesNothing() {
        for (Check.Calls after : Questions.PARTS) {
            Judge asked = new Judge();
            Rich.build(asked);
            for (int time = 0; time < 3; time++) {
                Check.due(asked.findings(), 3);
                Check.due(asked.verdict(), 3);
                Check.due(asked.byRule(5), 1);
                Check.due(asked.finding(2, 1), 5);
                Check.due(asked.look(0, 3, 1, 511), 3);
                Check.due(asked.supertypes(1, 3), 7);
                Check.due(asked.count(4), 3);
            }
            asked.takeAnswers();
            after.on(asked);
            Judge left = new Judge();
            Rich.build(left);
            left.takeAnswers();
            after.on(left);
            Check.same(asked.takeAnswers(), left.takeAnswers());
        }
    }
}
