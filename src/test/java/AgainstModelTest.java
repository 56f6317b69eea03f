import java.util.Random;

/** Random runs of 512 calls, the same ones each time, whose answers the model tells. */
final class AgainstModelTest {
    private static final int RUNS = 2000;
    /** The calls at the end of a run that are questions alone. */
    private static final int LAST_QUESTIONS = 180;
    private static final int[] CLASS_FLAGS = {0, 1, 1, 1, 3, 5};
    private static final int[] FIELD_FLAGS = {0, 1, 2, 3, 3, 3, 6, 7, 10, 11};
    private static final int[] METHOD_FLAGS = {0, 1, 2, 3, 3, 3, 6, 7, 10, 11, 15, 18, 19, 19};
    private static final int[] WILD = {Integer.MIN_VALUE, -2, -1, 8, 12, 14, 31, 32, 64, 512,
        Integer.MAX_VALUE};

    private final Random random;
    private final Judge judge = new Judge();
    private final Model model = new Model();
    /** How often a run strays to numbers that are mostly wrong, in a hundred calls. */
    private final int wildness;
    private final int keys;
    /** Bit t: what type t is most often, so that both baselines have it of the same kind. */
    private final int usualKinds;

    private AgainstModelTest(int seed) {
        random = new Random(seed);
        wildness = seed % 3 == 0 ? 10 : 0;
        keys = 2 + seed % 4;
        usualKinds = random.nextInt();
    }

    public static void main(String[] args) {
        int[] seen = new int[14];
        int most = 0;
        for (int seed = 0; seed < RUNS; seed++) {
            AgainstModelTest run = new AgainstModelTest(seed);
            if (seed % 2 == 0) {
                run.fill();
            }
            while (run.judge.callsLeft() > LAST_QUESTIONS) {
                run.anyCall();
            }
            run.lastQuestions();
            for (int rule = 0; rule < 14; rule++) {
                seen[rule] += run.model.byRule(rule);
            }
            most = Math.max(most, run.model.findings());
        }
        for (int rule = 0; rule < 14; rule++) {
            Check.due(seen[rule] >= 100 ? 1 : 0, 1);
        }
        Check.due(most >= 30 ? 1 : 0, 1);
        Check.end();
    }

    private int below(int limit) {
        return random.nextInt(limit);
    }

    /** A number below the limit, or now and then one of the wild ones. */
    private int some(int limit) {
        return below(100) < wildness ? WILD[below(WILD.length)] : below(limit);
    }

    private int one(int[] of) {
        return below(100) < wildness ? below(34) - 1 : of[below(of.length)];
    }

    /** Types in most places with many members, then a copy, so that NEW is near to OLD. */
    private void fill() {
        for (int type = 0; type < 12; type++) {
            defineType(0, type);
            for (int i = below(4); i > 0 && type > 0; i--) {
                int other = below(type);
                Check.due(judge.implement(0, type, other), model.implement(0, type, other));
            }
            for (int i = below(9); i > 0; i--) {
                addMember(0, type);
            }
        }
        Check.due(judge.copy(), model.copy());
    }

    private void defineType(int baseline, int type) {
        int kind = below(12) == 0 ? some(2) : usualKinds >> type & 1;
        int flags = kind == 1 ? (below(8) == 0 ? below(8) : below(4) == 0 ? 0 : 1)
                : one(CLASS_FLAGS);
        int highest = Math.min(Math.max(type, 0), 11);
        int parent = kind == 1 && below(10) > 0 ? -1 : some(highest + 2) - 1;
        Check.due(judge.type(baseline, type, kind, flags, parent),
                model.type(baseline, type, kind, flags, parent));
    }

    private void addMember(int baseline, int type) {
        int kind = below(7) == 0 ? some(3) : below(2);
        int key = below(100) < wildness ? some(600) : below(keys);
        int flags = memberFlags(kind);
        Check.due(judge.member(baseline, type, kind, key, flags),
                model.member(baseline, type, kind, key, flags));
    }

    private int memberFlags(int kind) {
        if (below(10) == 0) {
            return some(32);
        }
        if (kind == 0) {
            return below(2) == 0 ? 15 : one(FIELD_FLAGS);
        }
        return kind == 1 ? one(METHOD_FLAGS) : below(4);
    }

    private void anyCall() {
        int baseline = some(2);
        int type = some(12);
        switch (below(16)) {
            case 0:
            case 1:
                defineType(baseline, type);
                break;
            case 2:
                int other = some(Math.max(1, type % 12));
                Check.due(judge.implement(baseline, type, other),
                        model.implement(baseline, type, other));
                break;
            case 3:
            case 4:
            case 5:
                addMember(baseline, type);
                break;
            case 6:
            case 7:
                int field = some(9);
                int value = below(2);
                Check.due(judge.constant(baseline, type, field, value),
                        model.constant(baseline, type, field, value));
                break;
            case 8:
                int place = some(9);
                Check.due(judge.drop(baseline, type, place), model.drop(baseline, type, place));
                addMember(baseline, type);
                break;
            case 9:
                int rule = some(14);
                boolean on = below(3) > 0;
                Check.due(judge.suppress(rule, type, on), model.suppress(rule, type, on));
                break;
            case 10:
                seldomCall(baseline, type);
                break;
            default:
                anyQuestion(baseline, type);
        }
    }

    private void seldomCall(int baseline, int type) {
        int choice = below(20);
        if (choice == 0 && below(4) == 0) {
            Check.due(judge.copy(), model.copy());
        } else if (choice < 3) {
            judge.swap();
            model.swap();
        } else if (choice < 8) {
            Check.due(judge.remove(baseline, type), model.remove(baseline, type));
        } else if (choice < 12) {
            Check.due(judge.remove(baseline, type), model.remove(baseline, type));
            defineType(baseline, type);
            for (int i = 0; i < 6; i++) {
                addMember(baseline, type);
            }
        }
    }

    private void anyQuestion(int baseline, int type) {
        int index = some(40);
        int what = some(6);
        switch (below(7)) {
            case 0:
                Check.due(judge.supertypes(baseline, type), model.supertypes(baseline, type));
                break;
            case 1:
                int kind = some(3);
                int key = below(100) < wildness ? some(600) : below(keys);
                Check.due(judge.look(baseline, type, kind, key),
                        model.look(baseline, type, kind, key));
                break;
            case 2:
                Check.due(judge.findings(), model.findings());
                break;
            case 3:
                Check.due(judge.finding(index, what), model.finding(index, what));
                break;
            case 4:
                Check.due(judge.verdict(), model.verdict());
                break;
            case 5:
                Check.due(judge.byRule(index % 15), model.byRule(index % 15));
                break;
            default:
                Check.due(judge.count(what), model.count(what));
        }
    }

    /** Every finding as far as the calls go, then questions until none is left. */
    private void lastQuestions() {
        int number = model.findings();
        Check.due(judge.findings(), number);
        int asked = Math.min(number, judge.callsLeft() / 8);
        for (int i = 0; i < asked; i++) {
            int index = asked == number ? i : below(number);
            for (int what = 0; what < 3; what++) {
                Check.due(judge.finding(index, what), model.finding(index, what));
            }
        }
        Check.refused(judge.finding(number, 0));
        while (judge.callsLeft() > 0) {
            anyQuestion(below(2), below(12));
        }
    }
}
