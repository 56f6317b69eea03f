/** Counts the answers that are not as due and tells the line that asked for each. */
final class Check {
    static final int REFUSED = CompatibilityJudge.REFUSED;

    private static int asked = 0;
    private static int wrong = 0;

    private Check() {
    }

    static void due(long got, long want) {
        asked++;
        if (got != want) {
            tell("answered " + got + ", due is " + want);
        }
    }

    /** Compares all findings, each told as "rule type detail". */
    static void dueFindings(CompatibilityJudge x, String... want) {
        due(x.findings(), want.length);
        for (int i = 0; i < want.length; i++) {
            asked++;
            String got = x.finding(i, 0) + " " + x.finding(i, 1) + " " + x.finding(i, 2);
            if (!got.equals(want[i])) {
                tell("finding " + i + " is " + got + ", due is " + want[i]);
            }
        }
        due(x.finding(want.length, 0), REFUSED);
    }

    /** Everything that can be asked of the object, so that two states can be compared. */
    static String state(CompatibilityJudge x) {
        StringBuilder text = new StringBuilder();
        for (int what = 0; what < 5; what++) {
            text.append(x.count(what)).append(' ');
        }
        for (int baseline = 0; baseline < 2; baseline++) {
            for (int type = 0; type < 12; type++) {
                text.append(x.supertypes(baseline, type)).append(' ');
                for (int key = 0; key < 8; key++) {
                    for (int kind = 0; kind < 3; kind++) {
                        text.append(x.look(baseline, type, kind, key)).append(' ');
                    }
                }
            }
        }
        for (int i = 0; i < x.findings(); i++) {
            for (int what = 0; what < 5; what++) {
                text.append(x.finding(i, what)).append(' ');
            }
        }
        for (int rule = 0; rule < 14; rule++) {
            text.append(x.byRule(rule)).append(' ');
        }
        return text.append(x.verdict()).toString();
    }

    static void dueSame(String got, String want) {
        asked++;
        if (!got.equals(want)) {
            tell("state is " + got + "\n due is " + want);
        }
    }

    static void tell(String fault) {
        wrong++;
        String line = "";
        for (StackTraceElement element : new Throwable().getStackTrace()) {
            if (!element.getClassName().equals("Check")) {
                line = element.getFileName() + ":" + element.getLineNumber();
                break;
            }
        }
        if (wrong <= 50) {
            System.out.println(line + ": " + fault);
        }
    }

    static void end() {
        if (wrong != 0 || asked == 0) {
            System.out.println(wrong + " of " + asked + " answers are not as due");
            System.exit(1);
        }
    }
}
