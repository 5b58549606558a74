/** Runs of calls, always the same ones, on which the program has to answer as the model does. */
public final class ModelTests {
    private static final int RUNS = 600;
    private static final int CALLS = 512;
    private static final String[] NAMES = {"kind", "arrow", "erase", "copy", "mirror", "stateOf", "unlike", "pairOf",
        "talk", "talks", "standsIn", "against", "count", "undo", "type", "clearText", "fault", "read"};
    /** By sort of run: how often each of these calls is made. */
    private static final int[][] WEIGHTS = {
        {4, 8, 2, 1, 1, 4, 2, 6, 6, 2, 2, 6, 4, 2, 4, 1, 2, 1},
        {3, 9, 1, 2, 2, 2, 1, 9, 7, 3, 2, 9, 2, 1, 0, 0, 0, 0},
        {1, 1, 1, 1, 1, 2, 1, 3, 2, 1, 1, 3, 1, 1, 30, 1, 9, 4},
        {1, 12, 0, 1, 1, 1, 1, 3, 4, 5, 1, 3, 1, 0, 0, 0, 0, 0},
        {2, 5, 3, 2, 2, 12, 8, 1, 1, 1, 1, 2, 2, 2, 0, 0, 0, 0},
    };
    private static final int[] PLANS = {-1, 3, Integer.MIN_VALUE, Integer.MAX_VALUE};

    private static long seed;
    private static int sort;
    /** What is still to be typed. */
    private static String ahead = "";

    private ModelTests() {
    }

    public static void main(String[] args) {
        for (int run = 0; run < RUNS; run++) {
            seed = 977L * run + 1;
            sort = run % WEIGHTS.length;
            ahead = "";
            MirroredTalks x = new MirroredTalks();
            Model model = new Model();
            if (sort == 1 || sort == 3) {
                buildTalk(run, x, model);
            }
            for (int call = 200; call < CALLS; call++) {
                call(run, x, model);
            }
        }
        Checks.end();
    }

    /** The upper half of a row of numbers each of which is made from the one before it. */
    private static int below(int bound) {
        seed = seed * 6364136223846793005L + 1442695040888963407L;
        return (int) ((seed >>> 33) % bound);
    }

    private static boolean once(int in) {
        return below(in) == 0;
    }

    /** Two plans that mirror one another, but for what is changed later, so that they have much to say. */
    private static void buildTalk(int run, MirroredTalks x, Model model) {
        int words = 1 + below(3);
        for (int state = 0; state < 8; state++) {
            int kind = state == 7 ? 0 : 1 + below(2);
            Checks.due(run + ": kind", x.kind(0, state, kind), model.kind(0, state, kind));
            for (int i = 0; i < words; i++) {
                int word = below(6);
                int to = target(state);
                Checks.due(run + ": arrow", x.arrow(0, state, word, to), model.arrow(0, state, word, to));
            }
        }
        Checks.due(run + ": copy", x.copy(0, 1), model.copy(0, 1));
        Checks.due(run + ": mirror", x.mirror(1), model.mirror(1));
        for (int i = 0; i < 6; i++) {
            int state = below(8);
            int word = below(6);
            int to = target(state);
            Checks.due(run + ": arrow", x.arrow(1, state, word, to), model.arrow(1, state, word, to));
        }
    }

    private static int target(int state) {
        boolean forward = sort == 3 && !once(40);
        return forward ? Math.min(7, state + 1 + below(2)) : below(8);
    }

    private static int pick(int[] weights) {
        int sum = 0;
        for (int weight : weights) {
            sum += weight;
        }
        int left = below(sum);
        int picked = 0;
        while (left >= weights[picked]) {
            left -= weights[picked];
            picked++;
        }
        return picked;
    }

    private static int upTo(int most) {
        return once(60) ? once(2) ? most + 1 : PLANS[below(PLANS.length)] : below(most + 1);
    }

    private static int plan() {
        return upTo(2);
    }

    private static int what(int most, int words) {
        if (words > 0 && once(2)) {
            return 10 + (once(30) ? words : below(Math.min(words, once(4) ? words : 6)));
        }
        return upTo(most);
    }

    private static void call(int run, MirroredTalks x, Model model) {
        int call = pick(WEIGHTS[sort]);
        int a = plan();
        int b = call == 13 || call == 14 ? nextCharacter() : upTo(call == 3 || call >= 7 ? 2 : 7);
        int c = call == 0 ? upTo(2) : call == 7 ? once(3) ? -1 : once(5) ? below(80) : below(9) : upTo(5);
        int d = call == 1 && c >= 0 && c < 6 && b >= 0 ? target(Math.min(b, 7)) : upTo(7);
        switch (call) {
            case 0: due(run, call, x.kind(a, b, c), model.kind(a, b, c), a, b, c); break;
            case 1: due(run, call, x.arrow(a, b, c, d), model.arrow(a, b, c, d), a, b, c, d); break;
            case 2: due(run, call, x.erase(a, b, c), model.erase(a, b, c), a, b, c); break;
            case 3: due(run, call, x.copy(a, b), model.copy(a, b), a, b); break;
            case 4: due(run, call, x.mirror(a), model.mirror(a), a); break;
            case 5: d = what(3, 6); due(run, call, x.stateOf(a, b, d), model.stateOf(a, b, d), a, b, d); break;
            case 6: due(run, call, x.unlike(a), model.unlike(a), a); break;
            case 7: d = what(4, 64); due(run, call, x.pairOf(a, b, c, d), model.pairOf(a, b, c, d), a, b, c, d); break;
            case 8: d = what(6, 0); due(run, call, x.talk(a, b, d), model.talk(a, b, d), a, b, d); break;
            case 9: due(run, call, x.talks(a, b), model.talks(a, b), a, b); break;
            case 10: due(run, call, x.standsIn(a, b), model.standsIn(a, b), a, b); break;
            case 11: d = what(4, 64); due(run, call, x.against(a, b, d), model.against(a, b, d), a, b, d); break;
            case 12: d = what(3, 9); due(run, call, x.count(d), model.count(d), d); break;
            case 13: due(run, call, x.undo(), model.undo()); break;
            case 14: due(run, call, x.type(b), model.type(b), b); break;
            case 15: due(run, call, x.clearText(), model.clearText()); break;
            case 16: d = upTo(2); due(run, call, x.fault(d), model.fault(d), d); break;
            default: due(run, call, x.read(a), model.read(a), a); break;
        }
    }

    private static void due(int run, int call, long got, long want, int... arguments) {
        StringBuilder told = new StringBuilder("run " + run + ": " + NAMES[call] + "(");
        for (int i = 0; i < arguments.length; i++) {
            told.append(i == 0 ? "" : ", ").append(arguments[i]);
        }
        Checks.due(told + ")", got, want);
    }

    /** Goes on with states that are mostly possible. */
    private static int nextCharacter() {
        if (once(150)) {
            return once(2) ? 127 : 31;
        }
        if (once(150)) {
            return " ;.!?09agA".charAt(below(10));
        }
        if (ahead.isEmpty()) {
            ahead = stateText();
        }
        char next = ahead.charAt(0);
        ahead = ahead.substring(1);
        return next;
    }

    private static String stateText() {
        StringBuilder state = new StringBuilder().append(below(8)).append(".!?".charAt(below(3)));
        int arrows = state.charAt(1) == '.' ? 0 : below(4);
        for (int i = 0; i < arrows; i++) {
            state.append((char) ('a' + below(6))).append(below(8));
        }
        return state.append(';').toString();
    }
}
