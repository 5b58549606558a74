import java.util.ArrayList;
import java.util.Arrays;
import java.util.List;

/**
 * The ranges of all arguments: each call with all combinations of values at the ends of the ranges, beside them and far
 * off, on objects in several states. The answers are those of the model, and INVALID_ARGUMENT exactly where the
 * document's ranges ask for it.
 */
public final class BoundsTests {
    /** So that no object is used for more than 512 calls, those that prepare it included. */
    private static final int CALLS = 256;
    private static final int STATES_OF_OBJECTS = 4;

    private interface Call {
        long answer(MirroredTalks x, int[] a);
    }

    private interface ModelCall {
        long answer(Model x, int[] a);
    }

    private BoundsTests() {
    }

    public static void main(String[] args) {
        int[] plan = {0, 2};
        int[] state = {0, 7};
        int[] word = {0, 5};
        all("kind", (x, a) -> x.kind(a[0], a[1], a[2]), (x, a) -> x.kind(a[0], a[1], a[2]), plan, state, plan);
        all("arrow", (x, a) -> x.arrow(a[0], a[1], a[2], a[3]), (x, a) -> x.arrow(a[0], a[1], a[2], a[3]),
                plan, state, word, state);
        all("erase", (x, a) -> x.erase(a[0], a[1], a[2]), (x, a) -> x.erase(a[0], a[1], a[2]), plan, state, word);
        all("copy", (x, a) -> x.copy(a[0], a[1]), (x, a) -> x.copy(a[0], a[1]), plan, plan);
        all("mirror", (x, a) -> x.mirror(a[0]), (x, a) -> x.mirror(a[0]), plan);
        all("stateOf", (x, a) -> x.stateOf(a[0], a[1], a[2]), (x, a) -> x.stateOf(a[0], a[1], a[2]),
                plan, state, new int[] {0, 3, 10, 15});
        all("unlike", (x, a) -> x.unlike(a[0]), (x, a) -> x.unlike(a[0]), plan);
        int[] question = {0, 4, 10, 73};
        all("pairOf", (x, a) -> x.pairOf(a[0], a[1], a[2], a[3]), (x, a) -> x.pairOf(a[0], a[1], a[2], a[3]),
                plan, plan, new int[] {-1, Integer.MAX_VALUE}, question);
        all("talk", (x, a) -> x.talk(a[0], a[1], a[2]), (x, a) -> x.talk(a[0], a[1], a[2]),
                plan, plan, new int[] {0, 6});
        all("talks", (x, a) -> x.talks(a[0], a[1]), (x, a) -> x.talks(a[0], a[1]), plan, plan);
        all("standsIn", (x, a) -> x.standsIn(a[0], a[1]), (x, a) -> x.standsIn(a[0], a[1]), plan, plan);
        all("against", (x, a) -> x.against(a[0], a[1], a[2]), (x, a) -> x.against(a[0], a[1], a[2]),
                plan, plan, question);
        all("count", (x, a) -> x.count(a[0]), (x, a) -> x.count(a[0]), new int[] {0, 3, 10, 18});
        all("type", (x, a) -> x.type(a[0]), (x, a) -> x.type(a[0]), new int[] {32, 126});
        all("fault", (x, a) -> x.fault(a[0]), (x, a) -> x.fault(a[0]), new int[] {0, 2});
        all("read", (x, a) -> x.read(a[0]), (x, a) -> x.read(a[0]), plan);
        Checks.end();
    }

    /** Each range is told by its ends; an argument may have several of them. */
    private static void all(String name, Call call, ModelCall modelCall, int[]... ranges) {
        Checks.sentence(name + ": INVALID_ARGUMENT if an argument is out of range");
        List<int[]> rows = new ArrayList<>();
        rows.add(new int[0]);
        for (int[] range : ranges) {
            List<int[]> longer = new ArrayList<>();
            for (int[] row : rows) {
                for (int value : valuesAbout(range)) {
                    int[] more = Arrays.copyOf(row, row.length + 1);
                    more[row.length] = value;
                    longer.add(more);
                }
            }
            rows = longer;
        }
        for (int object = 0; object < STATES_OF_OBJECTS; object++) {
            MirroredTalks x = null;
            Model model = null;
            for (int i = 0; i < rows.size(); i++) {
                if (i % CALLS == 0) {
                    x = new MirroredTalks();
                    model = new Model();
                    prepare(object, x, model);
                }
                due(name, rows.get(i), ranges, call.answer(x, rows.get(i)), modelCall.answer(model, rows.get(i)));
            }
        }
    }

    private static int[] valuesAbout(int[] range) {
        int[] far = {Integer.MIN_VALUE, Integer.MAX_VALUE};
        int[] near = Arrays.stream(range).flatMap(end -> Arrays.stream(new int[] {end - 1, end, end + 1})).toArray();
        int[] others = {-2, 0, 1, 64};
        return Arrays.stream(new int[][] {far, near, others}).flatMapToInt(Arrays::stream).distinct().toArray();
    }

    private static void due(String name, int[] row, int[][] ranges, long got, long want) {
        String told = name + Arrays.toString(row);
        Checks.due(told, got, want);
        boolean valid = !name.equals("copy") || row[0] != row[1];
        for (int i = 0; i < row.length; i++) {
            valid &= isIn(row[i], ranges[i]);
        }
        Checks.due(told + " is invalid", got == Checks.INVALID ? 1 : 0, valid ? 0 : 1);
    }

    private static boolean isIn(int value, int[] range) {
        boolean found = false;
        for (int i = 0; i < range.length; i += 2) {
            found |= range[i] <= value && value <= range[i + 1];
        }
        return found;
    }

    /** Leaves the object new, or with a full text that has a fault, a text that has none, or plans that talk long. */
    private static void prepare(int object, MirroredTalks x, Model model) {
        if (object == 1) {
            write("0!a1;".repeat(16), x, model);
        }
        if (object == 2) {
            write("0!a7b0;7?f0a7;6.;", x, model);
            Checks.due("read", x.read(0), model.read(0));
            Checks.due("read", x.read(2), model.read(2));
            Checks.due("mirror", x.mirror(2), model.mirror(2));
        }
        if (object == 3) {
            write("0!a0b1;1!a1b2;2!a2b3;3!a3b4;4!a4b5;5!a5b6;6!a6b7;7!a7;", x, model);
            Checks.due("read", x.read(0), model.read(0));
            Checks.due("clearText", x.clearText(), model.clearText());
            write("0?a1;1?a2;2?a3;3?a4;4?a5;5?a6;6?a7;7?b0;", x, model);
            Checks.due("read", x.read(2), model.read(2));
        }
    }

    private static void write(String text, MirroredTalks x, Model model) {
        for (char character : text.toCharArray()) {
            Checks.due("type", x.type(character), model.type(character));
        }
    }
}
