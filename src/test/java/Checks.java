/** Counts the checks of one test program, and prints those whose answer is not the one that is due. */
final class Checks {
    static final int INVALID = -1000001;
    static final int NOT_POSSIBLE = -1000002;
    static final int LIMIT = -1000003;
    static final int NOT_FOUND = -1000004;

    private static int made;
    private static int wrong;

    private Checks() {
    }

    static void due(String what, long got, long want) {
        made++;
        if (got != want) {
            wrong++;
            System.out.println(what + ": answered " + got + ", due is " + want);
        }
    }

    /** Types a text, in place of the one before it. */
    static void write(MirroredTalks x, String text) {
        x.clearText();
        for (int i = 0; i < text.length(); i++) {
            due("type of " + text, x.type(text.charAt(i)), i + 1);
        }
    }

    static MirroredTalks withText(String text) {
        MirroredTalks x = new MirroredTalks();
        write(x, text);
        return x;
    }

    /** A new object with these plans; those that are not told stay as they are at first. */
    static MirroredTalks withPlans(String... plans) {
        MirroredTalks x = new MirroredTalks();
        for (int plan = 0; plan < plans.length; plan++) {
            write(x, plans[plan]);
            due("fault of " + plans[plan], x.fault(0), NOT_FOUND);
            x.read(plan);
        }
        x.clearText();
        return x;
    }

    /** Values that are out of a range from 0 to most. */
    static int[] outside(int most) {
        return new int[] {-1, most + 1, Integer.MIN_VALUE, Integer.MAX_VALUE};
    }

    static void end() {
        System.out.println(made + " checks, " + wrong + " wrong");
        if (wrong != 0 || made == 0) {
            System.exit(1);
        }
    }
}
