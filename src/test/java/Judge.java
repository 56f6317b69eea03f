/**
 * The object under test. It counts the calls, as the document leaves free what the 513th answers,
 * and keeps the answers, so that those of two objects can be compared.
 */
final class Judge {
    static final int CALLS = 512;

    private final CompatibilityJudge inside = new CompatibilityJudge();
    private final StringBuilder answers = new StringBuilder();
    private int calls = 0;

    private int kept(int answer) {
        calls++;
        if (calls > CALLS) {
            Check.tell("a test asks more than " + CALLS + " calls of one object");
        }
        answers.append(answer).append(' ');
        return answer;
    }

    int callsLeft() {
        return CALLS - calls;
    }

    /** The answers since the last time. */
    String takeAnswers() {
        String taken = answers.toString();
        answers.setLength(0);
        return taken;
    }

    int type(int baseline, int type, int kind, int flags, int parent) {
        return kept(inside.type(baseline, type, kind, flags, parent));
    }

    int implement(int baseline, int type, int other) {
        return kept(inside.implement(baseline, type, other));
    }

    int member(int baseline, int type, int kind, int key, int flags) {
        return kept(inside.member(baseline, type, kind, key, flags));
    }

    int constant(int baseline, int type, int place, int value) {
        return kept(inside.constant(baseline, type, place, value));
    }

    int remove(int baseline, int type) {
        return kept(inside.remove(baseline, type));
    }

    int drop(int baseline, int type, int place) {
        return kept(inside.drop(baseline, type, place));
    }

    int copy() {
        return kept(inside.copy());
    }

    void swap() {
        inside.swap();
        kept(0);
    }

    int suppress(int rule, int type, boolean on) {
        return kept(inside.suppress(rule, type, on));
    }

    int supertypes(int baseline, int type) {
        return kept(inside.supertypes(baseline, type));
    }

    int look(int baseline, int type, int kind, int key) {
        return kept(inside.look(baseline, type, kind, key));
    }

    int findings() {
        return kept(inside.findings());
    }

    int finding(int index, int what) {
        return kept(inside.finding(index, what));
    }

    int verdict() {
        return kept(inside.verdict());
    }

    int byRule(int rule) {
        return kept(inside.byRule(rule));
    }

    int count(int what) {
        return kept(inside.count(what));
    }
}
