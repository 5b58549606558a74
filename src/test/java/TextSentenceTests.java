/** The sentences on texts, and promises 16 to 19: each boundary case that they name. */
public final class TextSentenceTests {
    /** A plan of 80 characters, and one of 79. */
    private static final String FULL =
            "0!a1b2c3d4;1?a1b2c3d4;2!a1b2c3d4;3?a1b2c3d4;4!a1b2c3d4;5?a1b2c3d4;6!a1b2;7?a1b2;";
    private static final String ALL_BUT_ONE =
            "0!a1b2c3d4e5f6;1?a1b2c3d4e5f6;2!a1b2c3d4e5;3?a1b2c3d4;4!a1b2c3d4;5?a1b2;6!a1b2;";

    private TextSentenceTests() {
    }

    public static void main(String[] args) {
        atMost80Characters();
        emptyAtFirst();
        lengthAfterEach();
        characterOutOfRange();
        has80Characters();
        lengthItHad();
        statesFollowedBySemicolon();
        digitOfTheState();
        endsWithoutArrows();
        anyNumberOfArrows();
        lettersAndDigitsOfArrows();
        statesNotTold();
        firstCharacterOfTheFirstState();
        semicolonIncluded();
        toldBefore();
        sameWordTwice();
        firstOfTheseReasons();
        whereItBreaksOff();
        endsTooEarly();
        wordToldBefore();
        numbersOfTheFault();
        noFaultIfEmpty();
        noCauseOfReasonTwo();
        makesThePlan();
        textStays();
        howManyTold();
        readOfAFault();
        Checks.end();
    }

    private static void due(String what, long got, long want) {
        Checks.due(what, got, want);
    }

    private static void dueFault(String text, int position, int reason, int cause) {
        MirroredTalks x = Checks.withText(text);
        due("position of " + text, x.fault(0), position);
        due("reason of " + text, x.fault(1), reason);
        due("cause of " + text, x.fault(2), cause);
    }

    private static void dueNoFault(String text) {
        MirroredTalks x = Checks.withText(text);
        for (int what = 0; what < 3; what++) {
            due("fault of " + text, x.fault(what), Checks.NOT_FOUND);
        }
    }

    /** The plan that a text tells when it is read. */
    private static String planOf(String text) {
        MirroredTalks x = Checks.withText(text);
        x.read(0);
        return Checks.plan(x, 0);
    }

    private static void atMost80Characters() {
        Checks.sentence("There is a text of at most 80 characters");
        MirroredTalks x = Checks.withText(FULL);
        due("length", x.count(3), 80);
        for (int character : new int[] {';', ' ', '~'}) {
            due("the 81st", x.type(character), Checks.LIMIT);
        }
        due("length then", x.count(3), 80);
        due("no fault", x.fault(0), Checks.NOT_FOUND);
        due("read", x.read(0), 8);
        Checks.due("the plan", Checks.plan(x, 0), FULL);
        due("clear", x.clearText(), 80);
        due("type again", x.type('0'), 1);
        MirroredTalks y = Checks.withText(ALL_BUT_ONE);
        due("79", y.count(3), 79);
        due("the 80th", y.type('7'), 80);
        due("the 81st", y.type('.'), Checks.LIMIT);
        due("its fault", y.fault(0), 79);
        due("its cause", y.fault(2), 1);
    }

    private static void emptyAtFirst() {
        Checks.sentence("initially empty");
        MirroredTalks x = new MirroredTalks();
        due("length", x.count(3), 0);
        due("clear", x.clearText(), 0);
        due("type", x.type('0'), 1);
    }

    private static void lengthAfterEach() {
        Checks.sentence("Returns the length of the text");
        MirroredTalks x = new MirroredTalks();
        for (int length = 1; length <= 80; length++) {
            due("type", x.type(31 + length), length);
            due("length", x.count(3), length);
        }
    }

    private static void characterOutOfRange() {
        Checks.sentence("INVALID_ARGUMENT if character is out of range");
        for (int character = -300; character < 700; character++) {
            MirroredTalks x = new MirroredTalks();
            boolean right = character >= 32 && character <= 126;
            due("type " + character, x.type(character), right ? 1 : Checks.INVALID);
            due("length", x.count(3), right ? 1 : 0);
        }
        MirroredTalks x = new MirroredTalks();
        for (int character : new int[] {Integer.MIN_VALUE, Integer.MAX_VALUE, 65536 + 48, -65536 + 48}) {
            due("type " + character, x.type(character), Checks.INVALID);
        }
    }

    private static void has80Characters() {
        Checks.sentence("LIMIT_REACHED if it has 80 characters.");
        MirroredTalks x = new MirroredTalks();
        for (int length = 1; length <= 80; length++) {
            due("type", x.type('a'), length);
        }
        for (int character = 32; character < 127; character++) {
            due("type " + character, x.type(character), Checks.LIMIT);
        }
        due("length", x.clearText(), 80);
        due("emptied", x.type('a'), 1);
    }

    private static void lengthItHad() {
        Checks.sentence("Returns the length it had.");
        for (int length = 0; length <= 80; length++) {
            MirroredTalks x = Checks.withText(FULL.substring(0, length));
            due("clear", x.clearText(), length);
            due("clear again", x.clearText(), 0);
            due("length", x.count(3), 0);
            due("fault", x.fault(0), Checks.NOT_FOUND);
        }
    }

    private static void statesFollowedBySemicolon() {
        Checks.sentence("As a plan it is a row of states, each followed by \";\"");
        dueNoFault("0.;");
        dueNoFault("0.;1!;2?;");
        dueFault("0.", 0, 1, 2);
        dueFault("0.,1.;", 0, 1, 2);
        dueFault("0.1.;", 0, 1, 2);
        dueFault("0.;1.", 3, 1, 2);
        dueFault("0.;;1.;", 3, 1, 0);
        dueFault(";0.;", 0, 1, 0);
        dueFault(" 0.;", 0, 1, 0);
        dueFault("0.; ", 3, 1, 0);
    }

    private static void digitOfTheState() {
        Checks.sentence("a digit 0 to 7 (the state)");
        for (int character = 32; character < 127; character++) {
            String text = (char) character + ".;";
            if (character >= '0' && character <= '7') {
                dueNoFault(text);
                int state = character - '0';
                MirroredTalks x = Checks.withText((char) character + "!;");
                x.read(0);
                due("state of " + text, x.stateOf(0, state, 0), 1);
                due("states of " + text, x.count(0), 1);
            } else {
                dueFault(text, 0, 1, 0);
            }
        }
    }

    private static void endsWithoutArrows() {
        Checks.sentence("and \".\" (it ends), or \"!\" (it chooses) or \"?\" (it waits)");
        for (int character = 32; character < 127; character++) {
            int kind = ".!?".indexOf(character);
            String text = "3" + (char) character + ";";
            if (kind >= 0) {
                dueNoFault(text);
                MirroredTalks x = Checks.withText(text);
                x.kind(0, 3, (kind + 1) % 3);
                x.read(0);
                due("kind of " + text, x.stateOf(0, 3, 0), kind);
            } else {
                dueFault(text, 0, 1, 1);
            }
        }
        dueFault("3.a1;", 0, 1, 2);
        dueFault("3.!;", 0, 1, 2);
        dueFault("3!.;", 0, 1, 2);
        dueFault("3?!;", 0, 1, 2);
    }

    private static void anyNumberOfArrows() {
        Checks.sentence("any number of arrows, each a letter a to f and a digit 0 to 7");
        String arrows = "f0e1d2c3b4a5";
        for (int number = 0; number <= 6; number++) {
            String text = "7?" + arrows.substring(0, 2 * number) + ";";
            dueNoFault(text);
            MirroredTalks x = Checks.withText(text);
            x.read(2);
            due("arrows of " + text, x.count(1), number);
        }
        // More than there are words: it is of the form, but a word is told twice.
        for (int number = 7; number <= 38; number++) {
            dueFault("7?" + arrows + "c7".repeat(number - 6) + ";", 0, 3, 2);
        }
    }

    private static void lettersAndDigitsOfArrows() {
        Checks.sentence("each a letter a to f and a digit 0 to 7");
        for (int character = 32; character < 127; character++) {
            String letter = "0!b1" + (char) character + "2;";
            String digit = "0!b1c" + (char) character + ";";
            if (character >= 'c' && character <= 'f' || character == 'a') {
                dueNoFault(letter);
            } else if (character == 'b') {
                dueFault(letter, 0, 3, 1);
            } else if (character == ';') {
                dueFault(letter, 5, 1, 1);
            } else {
                dueFault(letter, 0, 1, 4);
            }
            if (character >= '0' && character <= '7') {
                dueNoFault(digit);
                MirroredTalks x = Checks.withText(digit);
                x.read(0);
                due("arrow of " + digit, x.stateOf(0, 0, 12), character - '0');
            } else {
                dueFault(digit, 0, 1, 5);
            }
        }
    }

    private static void statesNotTold() {
        Checks.sentence("States that are not told end, without arrows.");
        MirroredTalks x = Checks.withPlans("0!a1;1?b2;2!c3;3?d4;4!e5;5?f6;6!a7;7?b0;");
        x.copy(0, 1);
        Checks.write(x, "3!c4;5.;");
        due("read", x.read(1), 2);
        Checks.due("plan", Checks.plan(x, 1), "0.;1.;2.;3!c4;4.;5.;6.;7.;");
        Checks.due("another plan", Checks.plan(x, 0), "0!a1;1?b2;2!c3;3?d4;4!e5;5?f6;6!a7;7?b0;");
        x.arrow(1, 5, 5, 5);
        due("read again", x.read(1), 2);
        Checks.due("a told end, too", Checks.plan(x, 1), "0.;1.;2.;3!c4;4.;5.;6.;7.;");
    }

    private static void firstCharacterOfTheFirstState() {
        Checks.sentence("The fault of the text is the position, from 0, of the first character of the first state that"
                + " is not possible");
        String before = "";
        for (int state = 0; state < 8; state++) {
            dueFault(before + "x", before.length(), 1, 0);
            dueFault(before + state + "!a", before.length(), 1, 3);
            dueFault(before + state + "!f1e2f3;x", before.length(), 3, 5);
            if (state > 0) {
                dueFault(before + "0.;x", before.length(), 2, Checks.NOT_FOUND);
            }
            before += state + "!a1" + "b2".repeat(state % 2) + ";";
        }
        dueFault(before + ";", before.length(), 1, 0);
        // The last place where a fault can be.
        dueFault(ALL_BUT_ONE + ";", 79, 1, 0);
        dueFault(ALL_BUT_ONE + "7", 79, 1, 1);
        dueNoFault(ALL_BUT_ONE);
    }

    private static void semicolonIncluded() {
        Checks.sentence("1 it is not of this form, its \";\" included");
        for (String state : new String[] {"0.", "0!", "0?", "0!a1", "0?a1b2", "0?a1b2c3d4e5f6"}) {
            dueNoFault(state + ";");
            dueFault(state, 0, 1, state.length());
            dueFault(state + ":", 0, 1, state.length());
            dueFault("7.;" + state, 3, 1, state.length());
            dueNoFault("7.;" + state + ";");
        }
    }

    private static void toldBefore() {
        Checks.sentence("2 it was told before");
        for (int state = 0; state < 8; state++) {
            dueFault(state + ".;" + state + ".;", 3, 2, Checks.NOT_FOUND);
            dueFault(state + "!a1;" + (state + 1) % 8 + ".;" + state + "?b2;", 8, 2, Checks.NOT_FOUND);
            dueFault("0.;1.;2.;3.;4.;5.;6.;7.;" + state + "!;", 24, 2, Checks.NOT_FOUND);
        }
        // To lead to a state is not to tell it.
        dueNoFault("0!a1b2;1.;2.;");
    }

    private static void sameWordTwice() {
        Checks.sentence("3 two of its arrows are by the same word");
        for (int word = 0; word < 6; word++) {
            char letter = (char) ('a' + word);
            dueFault("0!" + letter + "1" + letter + "1;", 0, 3, word);
            dueFault("0?" + letter + "1" + letter + "2;", 0, 3, word);
            dueNoFault("0?" + letter + "1;1!" + letter + "1;");
        }
        dueFault("1!a0b0c0d0e0f0a0;", 0, 3, 0);
    }

    private static void firstOfTheseReasons() {
        Checks.sentence("its reason is the first of these");
        dueFault("0.;0!a1a1", 3, 1, 6);
        dueFault("0.;0!a1a1;", 3, 2, Checks.NOT_FOUND);
        dueFault("0.;1!a1a1;", 3, 3, 0);
        dueFault("0.;1!a1a1.;", 3, 1, 6);
        dueFault("0.;0,", 3, 1, 1);
        // The first state comes ahead of the first reason.
        dueFault("0!a1a1;0.;x", 0, 3, 0);
        dueFault("0.;0.;x", 3, 2, Checks.NOT_FOUND);
        dueFault("0.;0.;1!a1a1;", 3, 2, Checks.NOT_FOUND);
    }

    private static void whereItBreaksOff() {
        Checks.sentence("The cause of a fault with the reason 1 is at which character of the state, from 0, it breaks"
                + " off");
        String state = "5!a1b2c3d4e5f6;";
        for (int at = 0; at < state.length(); at++) {
            String broken = state.substring(0, at) + "#" + state.substring(at + 1);
            dueFault(broken, 0, 1, at);
            dueFault("0.;1?a2;" + broken, 8, 1, at);
        }
        // Not where it would have to be, but where it cannot go on.
        dueFault("0!a", 0, 1, 3);
        dueFault("0!;a", 3, 1, 0);
        dueFault("0!a;", 0, 1, 3);
        dueFault("0!1a;", 0, 1, 2);
        dueFault("0!aa;", 0, 1, 3);
        dueFault("01;", 0, 1, 1);
    }

    private static void endsTooEarly() {
        Checks.sentence("(of one that the text ends too early it is its length)");
        String state = "5!a1b2c3d4e5f6;";
        for (int length = 1; length < state.length(); length++) {
            dueFault(state.substring(0, length), 0, 1, length);
            dueFault("0.;" + state.substring(0, length), 3, 1, length);
        }
        dueFault("0!" + "a1".repeat(39), 0, 1, 80);
        dueFault("0!" + "a1".repeat(38) + "a", 0, 1, 79);
        dueFault("1.;0!" + "a1".repeat(37) + "a", 3, 1, 77);
        // What was behind it before the text was emptied is no more there.
        MirroredTalks x = Checks.withText("0!a1;1.;");
        Checks.write(x, "0!");
        due("position", x.fault(0), 0);
        due("cause", x.fault(2), 2);
    }

    private static void wordToldBefore() {
        Checks.sentence("with the reason 3 the word (0 to 5) of the first arrow from the left that is by a word told"
                + " before");
        dueFault("0!a1b2c3d4e5f6f7;", 0, 3, 5);
        dueFault("0!a1b2c3d4e5f6a7;", 0, 3, 0);
        dueFault("0!a1b2b3a4;", 0, 3, 1);
        dueFault("0!b2a1a4b3;", 0, 3, 0);
        dueFault("0!f1e2d3d4e5f6;", 0, 3, 3);
        dueFault("0!c1c2c3;", 0, 3, 2);
        dueFault("0.;3?e1d2d1e2;", 3, 3, 3);
    }

    private static void numbersOfTheFault() {
        Checks.sentence("0: its position; 1: its reason; 2: its cause");
        dueFault("0.;1!a", 3, 1, 3);
        dueFault("2.;1.;2!;", 6, 2, Checks.NOT_FOUND);
        dueFault("7!a0;1!b1f0f1;", 5, 3, 5);
    }

    private static void noFaultIfEmpty() {
        Checks.sentence("NOT_FOUND if the text has no fault (also if it is empty)");
        dueNoFault("");
        dueNoFault("0.;");
        dueNoFault(FULL);
        MirroredTalks x = Checks.withText("x");
        due("a fault", x.fault(0), 0);
        x.clearText();
        for (int what = 0; what < 3; what++) {
            due("emptied", x.fault(what), Checks.NOT_FOUND);
        }
        // A fault that goes when the text goes on.
        String text = "0!a1;7?;";
        MirroredTalks y = new MirroredTalks();
        for (int length = 1; length <= text.length(); length++) {
            y.type(text.charAt(length - 1));
            boolean whole = text.charAt(length - 1) == ';';
            due("fault up to " + length, y.fault(1), whole ? Checks.NOT_FOUND : 1);
        }
    }

    private static void noCauseOfReasonTwo() {
        Checks.sentence("for 2 if the reason is 2");
        MirroredTalks x = Checks.withText("0.;0!b1b1;");
        due("cause", x.fault(2), Checks.NOT_FOUND);
        due("reason", x.fault(1), 2);
        due("position", x.fault(0), 3);
        due("cause once more", x.fault(2), Checks.NOT_FOUND);
    }

    private static void makesThePlan() {
        Checks.sentence("Makes a plan that of the text");
        Checks.due("full", planOf(FULL), FULL);
        Checks.due("in another order", planOf("7!a0b7;0?f1a2;3.;"), "0?a2f1;1.;2.;3.;4.;5.;6.;7!a0b7;");
        Checks.due("empty", planOf(""), "0.;1.;2.;3.;4.;5.;6.;7.;");
        for (int plan = 0; plan < 3; plan++) {
            MirroredTalks x = Checks.withText("1!a1;");
            due("read", x.read(plan), 1);
            due("states", x.count(0), 1);
            due("arrow", x.stateOf(plan, 1, 10), 1);
        }
    }

    private static void textStays() {
        Checks.sentence("which stays");
        MirroredTalks x = Checks.withText("0!a1;1?");
        due("a fault", x.read(0), Checks.NOT_POSSIBLE);
        due("length", x.count(3), 7);
        due("goes on", x.type(';'), 8);
        due("read", x.read(0), 2);
        due("length then", x.count(3), 8);
        due("read into another one", x.read(1), 2);
        Checks.due("the same", Checks.plan(x, 1), Checks.plan(x, 0));
        x.type('2');
        x.type('!');
        due("goes on again", x.type(';'), 11);
        due("read again", x.read(2), 3);
    }

    private static void howManyTold() {
        Checks.sentence("Returns how many states are told");
        StringBuilder text = new StringBuilder();
        for (int told = 0; told <= 8; told++) {
            MirroredTalks x = Checks.withText(text.toString());
            due("told", x.read(1), told);
            due("those that end count, too", x.count(0), told / 2);
            text.append(7 - told).append(told % 2 == 0 ? '.' : '!').append(';');
        }
    }

    private static void readOfAFault() {
        Checks.sentence("NOT_POSSIBLE if the text has a fault.");
        for (String text : new String[] {"0", "0.", ";", "0.;x", "0.;0.;", "0!a1a2;", "0.;1!f1f1;2.;"}) {
            MirroredTalks x = Checks.withPlans("1!b2;");
            Checks.write(x, text);
            due("read of " + text, x.read(0), Checks.NOT_POSSIBLE);
            Checks.due("the plan stays", Checks.plan(x, 0), "0.;1!b2;2.;3.;4.;5.;6.;7.;");
            due("the history stays", x.count(2), 1);
            due("the text stays", x.count(3), text.length());
        }
    }
}
