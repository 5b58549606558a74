/** Promises 16 to 19: the text, its fault, and plans that are read from it. */
public final class TextTests {
    private TextTests() {
    }

    public static void main(String[] args) {
        type();
        clearText();
        textsWithoutFault();
        brokenForms();
        toldBefore();
        wordTwice();
        orderOfFaults();
        fullTexts();
        read();
        readPutsAllInPlace();
        wrongArguments();
        Checks.end();
    }

    private static void due(String what, long got, long want) {
        Checks.due(what, got, want);
    }

    private static void dueFault(String text, int position, int reason, int cause) {
        MirroredTalks x = Checks.withText(text);
        due("position of " + text, x.fault(0), position);
        due("reason of " + text, x.fault(1), reason);
        due("cause of " + text, x.fault(2), cause);
        due("read of " + text, x.read(0), Checks.NOT_POSSIBLE);
        due("history of " + text, x.count(2), 0);
        due("text of " + text, x.count(3), text.length());
    }

    private static void dueNoFault(String text, int told) {
        MirroredTalks x = Checks.withText(text);
        for (int what = 0; what < 3; what++) {
            due("fault of " + text, x.fault(what), Checks.NOT_FOUND);
        }
        due("read of " + text, x.read(1), told);
        due("history of " + text, x.count(2), 1);
    }

    private static void type() {
        MirroredTalks x = new MirroredTalks();
        due("type first", x.type(32), 1);
        due("type last", x.type(126), 2);
        for (int wrong : new int[] {31, 127, 0, -1, Integer.MIN_VALUE, Integer.MAX_VALUE}) {
            due("type " + wrong, x.type(wrong), Checks.INVALID);
        }
        for (int length = 3; length <= 80; length++) {
            due("type", x.type('a'), length);
        }
        due("type more", x.type('a'), Checks.LIMIT);
        due("type a wrong one", x.type(127), Checks.INVALID);
        due("length", x.count(3), 80);
        due("no change", x.count(2), 0);
    }

    private static void clearText() {
        MirroredTalks x = Checks.withText("0.");
        due("clear", x.clearText(), 2);
        due("clear again", x.clearText(), 0);
        due("length", x.count(3), 0);
        due("no fault", x.fault(0), Checks.NOT_FOUND);
        due("type again", x.type('1'), 1);
        due("nothing of the text before", x.fault(2), 1);
        due("no change", x.count(2), 0);
    }

    private static void textsWithoutFault() {
        dueNoFault("", 0);
        dueNoFault("0.;", 1);
        dueNoFault("7!;", 1);
        dueNoFault("3?;", 1);
        dueNoFault("3?f0e1d2c3b4a7;", 1);
        dueNoFault("7!a7;0?f0;1.;", 3);
        dueNoFault("0.;1.;2.;3.;4.;5.;6.;7.;", 8);
    }

    private static void brokenForms() {
        dueFault(";", 0, 1, 0);
        dueFault("8.;", 0, 1, 0);
        dueFault("/.;", 0, 1, 0);
        dueFault("a", 0, 1, 0);
        dueFault("0", 0, 1, 1);
        dueFault("0;", 0, 1, 1);
        dueFault("0a1;", 0, 1, 1);
        dueFault("0.", 0, 1, 2);
        dueFault("0.a1;", 0, 1, 2);
        dueFault("0..;", 0, 1, 2);
        dueFault("0!", 0, 1, 2);
        dueFault("0!!;", 0, 1, 2);
        dueFault("0!g1;", 0, 1, 2);
        dueFault("0!`1;", 0, 1, 2);
        dueFault("0!A1;", 0, 1, 2);
        dueFault("0!1;", 0, 1, 2);
        dueFault("0?a", 0, 1, 3);
        dueFault("0?a;", 0, 1, 3);
        dueFault("0?a8;", 0, 1, 3);
        dueFault("0?ab1;", 0, 1, 3);
        dueFault("0?a1", 0, 1, 4);
        dueFault("0?a1 ;", 0, 1, 4);
        dueFault("0?a1b", 0, 1, 5);
        dueFault("0.;;", 3, 1, 0);
        dueFault("0.; 1.;", 3, 1, 0);
        dueFault("0.;1", 3, 1, 1);
        dueFault("0!a1;1?b2;2.x", 10, 1, 2);
    }

    private static void toldBefore() {
        dueFault("0.;0.;", 3, 2, Checks.NOT_FOUND);
        dueFault("7!a1;1.;7?;", 8, 2, Checks.NOT_FOUND);
        dueFault("0.;1.;2.;3.;4.;5.;6.;7.;0.;", 24, 2, Checks.NOT_FOUND);
    }

    private static void wordTwice() {
        dueFault("0!a1a1;", 0, 3, 0);
        dueFault("0!a1b2f3f4b5;", 0, 3, 5);
        dueFault("0!a1b2f3b4f5;", 0, 3, 1);
        dueFault("0.;1?a0;2?c1d2e3d4;", 8, 3, 3);
        // The same word in two states is fine.
        dueNoFault("0!a1;1!a0;", 2);
        // More arrows than words.
        dueFault("0!a1b1c1d1e1f1a1;", 0, 3, 0);
    }

    private static void orderOfFaults() {
        // In one state: the form before all, told before ahead of a word twice.
        dueFault("0.;0!a1a1", 3, 1, 6);
        dueFault("0.;0!a1a1;", 3, 2, Checks.NOT_FOUND);
        dueFault("0!a1a1.;", 0, 1, 6);
        // Of several states the first one.
        dueFault("0!a1a1;1", 0, 3, 0);
        dueFault("0.;0.;1!a1a1;x", 3, 2, Checks.NOT_FOUND);
        // One with a fault of its own counts no more.
        dueFault("9.;9.;", 0, 1, 0);
    }

    private static void fullTexts() {
        String arrows = "a1".repeat(39);
        dueFault("0!" + arrows, 0, 1, 80);
        dueFault("0!" + arrows.substring(0, 76) + "a;", 0, 1, 79);
        dueFault("0!" + arrows.substring(0, 76) + "a", 0, 1, 79);
        dueFault("0!" + arrows.substring(0, 76) + ";", 0, 3, 0);
        dueFault("1.;0!" + arrows.substring(0, 74) + ";", 3, 3, 0);
        dueFault("0!" + arrows.substring(0, 76) + ";1", 0, 3, 0);
        dueNoFault("0!c1;1!a2c2d2e2f2;2!a3c3d3e3f3;3!a4c4d4e4f4;4!a5c5d5e5f5;5!a6c6d6e6f6;6!b1a7;", 7);
        dueFault("0?a0b0c0d0e0f0;1?a0b0c0d0e0f0;2?a0b0c0d0e0f0;3?a0b0c0d0e0f0;4?a0b0c0d0e0f0;5?a0b", 75, 1, 5);
    }

    private static void read() {
        MirroredTalks x = Checks.withText("6?a0f7;0!b6;2.;");
        due("read", x.read(2), 3);
        due("waits", x.stateOf(2, 6, 0), 2);
        due("its words", x.stateOf(2, 6, 1), 33);
        due("its first arrow", x.stateOf(2, 6, 10), 0);
        due("its last arrow", x.stateOf(2, 6, 15), 7);
        due("chooses", x.stateOf(2, 0, 0), 1);
        due("ends", x.stateOf(2, 2, 0), 0);
        due("no other plan", x.stateOf(0, 6, 0) + x.stateOf(1, 6, 0), 0);
        due("the text stays", x.count(3), 15);
        due("read again", x.read(0), 3);
        due("into the other one", x.stateOf(0, 6, 15), 7);
        due("two changes", x.count(2), 2);
        x.arrow(0, 6, 5, 1);
        due("plans are on their own", x.stateOf(2, 6, 15), 7);
        due("read once more", x.read(0), 3);
        due("as the text tells", x.stateOf(0, 6, 15), 7);
    }

    private static void readPutsAllInPlace() {
        MirroredTalks x = Checks.withPlans("", "0!a1;1?b2;5!c3;");
        x.arrow(1, 7, 5, 5);
        Checks.write(x, "1.;5?;");
        due("read", x.read(1), 2);
        due("states", x.count(0), 1);
        due("arrows", x.count(1), 0);
        x.clearText();
        due("the empty text", x.read(1), 0);
        due("all end", x.count(0), 0);
        due("undo", x.undo(), 3);
        due("undo again", x.undo(), 2);
        due("arrow of an end", x.stateOf(1, 7, 15), 5);
    }

    private static void wrongArguments() {
        MirroredTalks x = Checks.withText("0");
        for (int wrong : Checks.outside(2)) {
            due("fault what", x.fault(wrong), Checks.INVALID);
            due("read plan", x.read(wrong), Checks.INVALID);
        }
        x.clearText();
        due("fault what of no fault", x.fault(3), Checks.INVALID);
    }
}
