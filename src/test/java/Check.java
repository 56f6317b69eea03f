/** Counts the answers that are not as due and tells the line that asked for each. */
final class Check {
    static final int REFUSED = CompatibilityJudge.REFUSED;

    private static int asked = 0;
    private static int wrong = 0;

    private Check() {
    }

    /** Calls that bring an object into a state, or ask it. */
    interface Calls {
        void on(Judge x);
    }

    /** One call, whose answer counts. */
    interface Call {
        int on(Judge x);
    }

    /** One call in which one number is left open. */
    interface NumberCall {
        int on(Judge x, int number);
    }

    /** A sentence of the document, or a case of one, with the test of its own. */
    static void sentence(String words, Runnable test) {
        int askedBefore = asked;
        int wrongBefore = wrong;
        test.run();
        if (asked == askedBefore) {
            tell("nothing is asked for: " + words);
        }
        System.out.println((wrong == wrongBefore ? "  holds:  " : "  BROKEN: ") + words);
    }

    static void due(long got, long want) {
        asked++;
        if (got != want) {
            tell("answered " + got + ", due is " + want);
        }
    }

    static void refused(int got) {
        due(got, REFUSED);
    }

    /** The call is refused, and everything answers as if it had not been made. */
    static void refused(Calls before, Call call) {
        for (Calls after : Questions.PARTS) {
            Judge with = new Judge();
            before.on(with);
            due(call.on(with), REFUSED);
            with.takeAnswers();
            after.on(with);
            Judge without = new Judge();
            before.on(without);
            without.takeAnswers();
            after.on(without);
            same(with.takeAnswers(), without.takeAnswers());
        }
        refusedBetweenQuestions(before, call);
    }

    /** One object, as what it keeps ready for the next question must stay right too. */
    private static void refusedBetweenQuestions(Calls before, Call call) {
        Judge x = new Judge();
        before.on(x);
        x.takeAnswers();
        Questions.view(x);
        String first = x.takeAnswers();
        due(call.on(x), REFUSED);
        x.takeAnswers();
        Questions.view(x);
        same(x.takeAnswers(), first);
    }

    /** The numbers low and high are taken; the next ones and the farthest are refused. */
    static void range(int low, int high, Calls before, NumberCall call) {
        for (int number : new int[] {low, high}) {
            Judge x = new Judge();
            before.on(x);
            asked++;
            if (call.on(x, number) == REFUSED) {
                tell("refused for " + number + ", which is in the range");
            }
        }
        refusedOutside(low, high, before, call);
    }

    static void refusedOutside(int low, int high, Calls before, NumberCall call) {
        int[] outside = {low - 1, high + 1, Integer.MIN_VALUE, Integer.MAX_VALUE};
        for (int number : outside) {
            refused(before, x -> call.on(x, number));
        }
    }

    static void nothing(Judge x) {
    }

    /** Compares all findings, each told as "rule type detail". */
    static void findings(Judge x, String... want) {
        due(x.findings(), want.length);
        for (int i = 0; i < want.length; i++) {
            same(x.finding(i, 0) + " " + x.finding(i, 1) + " " + x.finding(i, 2), want[i]);
        }
        due(x.finding(want.length, 0), REFUSED);
    }

    static void same(String got, String want) {
        asked++;
        if (!got.equals(want)) {
            tell("answered " + got + "\n    due is " + want);
        }
    }

    static void tell(String fault) {
        wrong++;
        String line = "";
        for (StackTraceElement element : new Throwable().getStackTrace()) {
            String name = element.getClassName();
            if (!name.equals("Check") && !name.equals("Judge") && !name.equals("Questions")) {
                line = element.getFileName() + ":" + element.getLineNumber();
                break;
            }
        }
        if (wrong <= 50) {
            System.out.println(line + ": " + fault);
        }
    }

    static void end() {
        if (wrong != 0 || asked == 0) {
            System.out.println(wrong + " of " + asked + " answers are not as due");
            System.exit(1);
        }
    }
}
