/** Counts the checks of one test program, and prints those whose answer is not the one that is due. */
final class Checks {
    static final int INVALID = -1000001;
    static final int NOT_POSSIBLE = -1000002;
    static final int LIMIT = -1000003;
    static final int NOT_FOUND = -1000004;

    private static int made;
    private static int wrong;
    private static int sentences;
    /** The sentence of the document that the checks are for, empty if they are for no single one. */
    private static String sentence = "";
    private static int madeBefore;

    private Checks() {
    }

    /** The checks that follow are for this sentence of the document, in the document's own words. */
    static void sentence(String words) {
        endSentence();
        sentence = words;
        sentences++;
        madeBefore = made;
    }

    private static void endSentence() {
        if (!sentence.isEmpty() && made == madeBefore) {
            wrong++;
            System.out.println("no check for: " + sentence);
        }
    }

    static void due(String what, long got, long want) {
        due(what, Long.toString(got), Long.toString(want));
    }

    static void due(String what, String got, String want) {
        made++;
        if (!got.equals(want)) {
            wrong++;
            System.out.println(what + ": answered " + got + ", due is " + want
                    + (sentence.isEmpty() ? "" : " (\"" + sentence + "\")"));
        }
    }

    /** Types a text, in place of the one before it. */
    static void write(MirroredTalks x, String text) {
        x.clearText();
        for (int i = 0; i < text.length(); i++) {
            due("type of " + text, x.type(text.charAt(i)), i + 1);
        }
    }

    static MirroredTalks withText(String text) {
        MirroredTalks x = new MirroredTalks();
        write(x, text);
        return x;
    }

    /** A new object with these plans; those that are not told stay as they are at first. */
    static MirroredTalks withPlans(String... plans) {
        MirroredTalks x = new MirroredTalks();
        for (int plan = 0; plan < plans.length; plan++) {
            write(x, plans[plan]);
            due("fault of " + plans[plan], x.fault(0), NOT_FOUND);
            x.read(plan);
        }
        x.clearText();
        return x;
    }

    /** Values that are out of a range from 0 to most. */
    static int[] outside(int most) {
        return new int[] {-1, most + 1, Integer.MIN_VALUE, Integer.MAX_VALUE};
    }

    /** A plan as a text, those arrows too that its states have though they end; it takes at most 64 calls. */
    static String plan(MirroredTalks x, int plan) {
        StringBuilder told = new StringBuilder();
        for (int state = 0; state < 8; state++) {
            int words = x.stateOf(plan, state, 1);
            told.append(state).append(".!?".charAt(x.stateOf(plan, state, 0)));
            for (int word = 0; word < 6; word++) {
                if ((words >> word & 1) == 1) {
                    told.append((char) ('a' + word)).append(x.stateOf(plan, state, 10 + word));
                }
            }
            told.append(';');
        }
        return told.toString();
    }

    static String plans(MirroredTalks x) {
        return plan(x, 0) + " / " + plan(x, 1) + " / " + plan(x, 2);
    }

    static void end() {
        endSentence();
        System.out.println(made + " checks"
                + (sentences == 0 ? "" : " of " + sentences + " sentences") + ", " + wrong + " wrong");
        if (wrong != 0 || made == 0) {
            System.exit(1);
        }
    }
}
