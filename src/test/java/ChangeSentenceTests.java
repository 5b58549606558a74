/** The sentences on changes and errors, and promises 14 and 15: each boundary case that they name. */
public final class ChangeSentenceTests {
    /** One call of the program, with its arguments. */
    private interface Call {
        long on(MirroredTalks x);
    }

    private ChangeSentenceTests() {
    }

    public static void main(String[] args) {
        changesAreTheseCalls();
        changesThatAlterNothing();
        otherCallsAreNoChanges();
        refusedCallsAreNoChanges();
        atMostFourStates();
        everythingBeforeButTheText();
        theOldestIsDropped();
        latestStateIsRestored();
        undoIsNoChange();
        statesThatAreLeft();
        emptyHistory();
        changesAfterUndo();
        invalidRatherThanNotPossible();
        invalidRatherThanLimit();
        invalidRatherThanNotFound();
        notPossibleRatherThanLimit();
        errorsChangeNothing();
        theConstants();
        statesThatDoNotEnd();
        arrowsOfAllPlans();
        statesInTheHistory();
        lengthOfTheText();
        for512Calls();
        Checks.end();
    }

    private static void due(String what, long got, long want) {
        Checks.due(what, got, want);
    }

    /** An object with three plans, a text with a fault, and a full history. */
    private static MirroredTalks rich() {
        MirroredTalks x = Checks.withPlans("0!a1b2;1?c0;5!f5;", "0?a1;1!c0d7;7?;", "6!e6;");
        x.arrow(0, 3, 4, 5);
        x.kind(2, 0, 2);
        x.erase(1, 1, 3);
        x.mirror(2);
        Checks.write(x, "0!a1;0?b");
        return x;
    }

    private static String all(MirroredTalks x) {
        return Checks.plans(x) + ", history " + x.count(2) + ", text " + x.count(3)
                + ", fault " + x.fault(0) + " " + x.fault(1) + " " + x.fault(2);
    }

    /** Two objects, to one of which a call is made, tell the same, also of what lies in their histories. */
    private static void dueNoTrace(String what, Call call, long answer) {
        for (int undos = 0; undos <= 4; undos++) {
            MirroredTalks x = rich();
            MirroredTalks y = rich();
            due(what, call.on(x), answer);
            for (int undo = 0; undo < undos; undo++) {
                due(what + ", then undo", x.undo(), y.undo());
            }
            Checks.due(what + ", then undo " + undos + " times", all(x), all(y));
            due(what + ", then type", x.type('3'), y.type('3'));
            due(what + ", then the cause", x.fault(2), y.fault(2));
        }
    }

    private static void dueChange(String what, Call call, long answer) {
        MirroredTalks x = rich();
        x.undo();
        String before = Checks.plans(x);
        due("history ahead of " + what, x.count(2), 3);
        due(what, call.on(x), answer);
        due("history behind " + what, x.count(2), 4);
        due("undo of " + what, x.undo(), 3);
        Checks.due("plans then", Checks.plans(x), before);
    }

    private static void changesAreTheseCalls() {
        Checks.sentence("The changes are the calls of kind, arrow, erase, copy, mirror and read that return no error.");
        dueChange("kind", x -> x.kind(0, 7, 1), 0);
        dueChange("arrow", x -> x.arrow(1, 0, 5, 7), 2);
        dueChange("erase", x -> x.erase(0, 3, 4), 5);
        dueChange("copy", x -> x.copy(0, 2), 3);
        dueChange("mirror", x -> x.mirror(0), 3);
        dueChange("read", x -> {
            Checks.write(x, "4!a1;");
            return x.read(0);
        }, 1);
    }

    private static void changesThatAlterNothing() {
        Checks.sentence("that return no error");
        dueChange("kind that it has", x -> x.kind(0, 0, 1), 1);
        dueChange("arrow that it has", x -> x.arrow(0, 0, 0, 1), 2);
        MirroredTalks x = new MirroredTalks();
        due("mirror of ends", x.mirror(0), 0);
        due("is a change", x.count(2), 1);
        due("read of no text", x.read(0), 0);
        due("is a change", x.count(2), 2);
        due("copy of ends", x.copy(0, 1), 0);
        due("is a change", x.count(2), 3);
        due("the same copy once more", x.copy(0, 1), 0);
        due("is a change", x.count(2), 4);
    }

    private static void otherCallsAreNoChanges() {
        Checks.sentence("The changes are the calls of kind, arrow, erase, copy, mirror and read");
        for (int what : new int[] {0, 1, 2, 3, 10, 11}) {
            int state = what == 0 ? 1 : what == 1 ? 3 : what == 2 ? 0 : what == 3 ? 7 : what - 9;
            dueNoTrace("stateOf " + what, x -> x.stateOf(0, 0, what), state);
        }
        dueNoTrace("unlike", x -> x.unlike(0), 3);
        dueNoTrace("pairOf", x -> x.pairOf(0, 1, -1, 4), 1);
        dueNoTrace("talk", x -> x.talk(0, 1, 0), 2);
        dueNoTrace("talks", x -> x.talks(0, 1), Checks.NOT_POSSIBLE);
        dueNoTrace("standsIn", x -> x.standsIn(0, 0), 1);
        dueNoTrace("against", x -> x.against(0, 1, 3), 1);
        dueNoTrace("count", x -> x.count(0), 8);
        dueNoTrace("fault", x -> x.fault(0), 5);
    }

    private static void refusedCallsAreNoChanges() {
        Checks.sentence("A call that returns an error changes nothing.");
        MirroredTalks x = new MirroredTalks();
        Call[] calls = {
            y -> y.kind(3, 0, 0), y -> y.arrow(0, 0, 0, 8), y -> y.erase(0, 0, 0), y -> y.erase(0, 0, 6),
            y -> y.copy(1, 1), y -> y.mirror(-1), y -> y.read(3), y -> y.undo()};
        for (Call call : calls) {
            due("refused", call.on(x) < -1000000 ? 1 : 0, 1);
            due("history", x.count(2), 0);
        }
        x.type('0');
        due("read of a fault", x.read(0), Checks.NOT_POSSIBLE);
        due("history then", x.count(2), 0);
    }

    private static void atMostFourStates() {
        Checks.sentence("A history of at most 4 states is kept");
        MirroredTalks x = new MirroredTalks();
        for (int change = 1; change <= 12; change++) {
            x.kind(0, change % 8, change % 3);
            due("history after " + change, x.count(2), Math.min(change, 4));
        }
        for (int left = 3; left >= 0; left--) {
            due("undo", x.undo(), left);
        }
        due("no fifth one", x.undo(), Checks.NOT_POSSIBLE);
    }

    private static void everythingBeforeButTheText() {
        Checks.sentence("each change records everything before it but the text");
        MirroredTalks x = new MirroredTalks();
        x.arrow(2, 7, 5, 7);
        x.kind(1, 4, 2);
        Checks.write(x, "0.;");
        String before = Checks.plans(x);
        x.kind(0, 0, 1);
        due("type goes on", x.type('1'), 4);
        due("undo", x.undo(), 2);
        Checks.due("all three plans", Checks.plans(x), before);
        due("the text stays", x.count(3), 4);
        due("its fault, too", x.fault(2), 1);
        x.mirror(1);
        x.clearText();
        due("undo again", x.undo(), 2);
        due("the text stays empty", x.count(3), 0);
        Checks.due("all three plans again", Checks.plans(x), before);
    }

    private static void theOldestIsDropped() {
        Checks.sentence("if there are 5 states then, the oldest one is dropped");
        MirroredTalks x = new MirroredTalks();
        Call[] changes = {
            y -> y.kind(0, 0, 1), y -> y.arrow(0, 0, 2, 3), y -> y.copy(0, 1), y -> y.mirror(1),
            y -> y.erase(0, 0, 2), y -> y.kind(2, 7, 2), y -> y.arrow(2, 7, 5, 0)};
        String[] before = new String[changes.length];
        MirroredTalks told = new MirroredTalks();
        for (int change = 0; change < changes.length; change++) {
            before[change] = Checks.plan(told, 0) + Checks.plan(told, 1);
            changes[change].on(told);
            changes[change].on(x);
            due("history", x.count(2), Math.min(change + 1, 4));
        }
        for (int change = changes.length - 1; change >= changes.length - 4; change--) {
            due("undo", x.undo(), change - 3);
            Checks.due("ahead of change " + change, Checks.plan(x, 0) + Checks.plan(x, 1), before[change]);
        }
        due("the older ones are gone", x.undo(), Checks.NOT_POSSIBLE);
        Checks.due("as it was", Checks.plan(x, 0) + Checks.plan(x, 1), before[changes.length - 4]);
    }

    private static void latestStateIsRestored() {
        Checks.sentence("Restores the latest state of the history, which is removed from it.");
        MirroredTalks x = new MirroredTalks();
        for (int to = 0; to < 4; to++) {
            x.arrow(1, 2, 3, to);
        }
        for (int to = 2; to >= 0; to--) {
            due("undo", x.undo(), to + 1);
            due("the one before", x.stateOf(1, 2, 13), to);
        }
        due("the last one", x.undo(), 0);
        due("none", x.stateOf(1, 2, 13), Checks.NOT_FOUND);
        // Whatever the change is, all three plans are as they were, back to the beginning.
        for (int plan = 0; plan < 3; plan++) {
            int changed = plan;
            dueRestored(y -> y.kind(changed, 0, 1), y -> y.arrow(changed, 0, 0, 7), y -> y.erase(changed, 0, 0),
                    y -> y.mirror(changed));
            dueRestored(y -> y.arrow(changed, 7, 5, 7), y -> y.kind(changed, 7, 2),
                    y -> y.copy(changed, (changed + 1) % 3), y -> y.read(changed));
        }
    }

    private static void dueRestored(Call... changes) {
        MirroredTalks x = new MirroredTalks();
        String[] before = new String[changes.length];
        for (int change = 0; change < changes.length; change++) {
            MirroredTalks y = new MirroredTalks();
            for (int first = 0; first < change; first++) {
                changes[first].on(y);
            }
            before[change] = Checks.plans(y);
            changes[change].on(x);
        }
        for (int change = changes.length - 1; change >= 0; change--) {
            due("undo", x.undo(), change);
            Checks.due("ahead of change " + change, Checks.plans(x), before[change]);
        }
    }

    private static void undoIsNoChange() {
        Checks.sentence("which is removed from it");
        MirroredTalks x = new MirroredTalks();
        x.kind(0, 0, 1);
        x.kind(0, 0, 2);
        due("undo", x.undo(), 1);
        due("history", x.count(2), 1);
        due("undo goes on back", x.undo(), 0);
        due("to the beginning", x.stateOf(0, 0, 0), 0);
        due("and no further", x.undo(), Checks.NOT_POSSIBLE);
    }

    private static void statesThatAreLeft() {
        Checks.sentence("Returns the number of states that are left in the history");
        for (int changes = 1; changes <= 6; changes++) {
            MirroredTalks x = new MirroredTalks();
            for (int change = 0; change < changes; change++) {
                x.mirror(0);
            }
            for (int left = Math.min(changes, 4) - 1; left >= 0; left--) {
                due("undo of " + changes, x.undo(), left);
                due("count", x.count(2), left);
            }
        }
    }

    private static void emptyHistory() {
        Checks.sentence("NOT_POSSIBLE if it is empty.");
        MirroredTalks x = Checks.withText("0!a1;");
        due("of a new object", x.undo(), Checks.NOT_POSSIBLE);
        due("typing is no change", x.count(3), 5);
        x.read(0);
        due("undo", x.undo(), 0);
        String before = Checks.plans(x);
        due("empty again", x.undo(), Checks.NOT_POSSIBLE);
        due("and again", x.undo(), Checks.NOT_POSSIBLE);
        Checks.due("nothing changes", Checks.plans(x), before);
        due("nor the text", x.count(3), 5);
    }

    private static void changesAfterUndo() {
        Checks.sentence("A history of at most 4 states is kept: each change records everything before it but the text,"
                + " and if there are 5 states then, the oldest one is dropped.");
        // Four changes, two taken back, three more: the first of all is dropped.
        MirroredTalks x = new MirroredTalks();
        for (int to = 1; to <= 4; to++) {
            x.arrow(0, 0, 0, to);
        }
        due("undo", x.undo(), 3);
        due("undo", x.undo(), 2);
        for (int to = 5; to <= 7; to++) {
            x.arrow(0, 0, 0, to);
        }
        due("history", x.count(2), 4);
        int[] arrows = {6, 5, 2, 1};
        for (int left = 3; left >= 0; left--) {
            due("undo", x.undo(), left);
            due("arrow", x.stateOf(0, 0, 10), arrows[3 - left]);
        }
        due("no more", x.undo(), Checks.NOT_POSSIBLE);
    }

    private static void invalidRatherThanNotPossible() {
        Checks.sentence("INVALID_ARGUMENT is returned rather than NOT_POSSIBLE");
        MirroredTalks x = Checks.withText("x");
        for (int wrong : Checks.outside(2)) {
            due("erase plan", x.erase(wrong, 0, 0), Checks.INVALID);
            due("read", x.read(wrong), Checks.INVALID);
        }
        for (int wrong : Checks.outside(7)) {
            due("erase state", x.erase(0, wrong, 0), Checks.INVALID);
        }
        for (int wrong : Checks.outside(5)) {
            due("erase word", x.erase(0, 0, wrong), Checks.INVALID);
        }
        due("erase", x.erase(0, 0, 0), Checks.NOT_POSSIBLE);
        due("read of the fault", x.read(2), Checks.NOT_POSSIBLE);
        MirroredTalks y = Checks.withPlans("0!a0;", "0?a0;");
        for (int wrong : Checks.outside(2)) {
            due("talks one", y.talks(wrong, 1), Checks.INVALID);
            due("talks other", y.talks(0, wrong), Checks.INVALID);
        }
        due("talks", y.talks(0, 1), Checks.NOT_POSSIBLE);
    }

    private static void invalidRatherThanLimit() {
        Checks.sentence("INVALID_ARGUMENT is returned rather than NOT_POSSIBLE, NOT_POSSIBLE rather than"
                + " LIMIT_REACHED");
        MirroredTalks x = Checks.withText(";".repeat(80));
        for (int wrong : new int[] {31, 127, 0, -1, Integer.MIN_VALUE, Integer.MAX_VALUE}) {
            due("type " + wrong, x.type(wrong), Checks.INVALID);
        }
        for (int right : new int[] {32, 126, '0', ';'}) {
            due("type " + right, x.type(right), Checks.LIMIT);
        }
    }

    private static void invalidRatherThanNotFound() {
        Checks.sentence("If several errors apply to a call, INVALID_ARGUMENT is returned");
        MirroredTalks x = new MirroredTalks();
        for (int wrong : Checks.outside(2)) {
            due("stateOf plan", x.stateOf(wrong, 0, 10), Checks.INVALID);
            due("pairOf one", x.pairOf(wrong, 0, 1, 0), Checks.INVALID);
            due("pairOf other", x.pairOf(0, wrong, 1, 0), Checks.INVALID);
            due("talk one", x.talk(wrong, 0, 4), Checks.INVALID);
            due("talk other", x.talk(0, wrong, 4), Checks.INVALID);
            due("against one", x.against(wrong, 0, 0), Checks.INVALID);
            due("against other", x.against(0, wrong, 0), Checks.INVALID);
            due("fault", x.fault(wrong), Checks.INVALID);
        }
        for (int wrong : Checks.outside(7)) {
            due("stateOf state", x.stateOf(0, wrong, 10), Checks.INVALID);
        }
        for (int wrong : new int[] {-1, 5, 9, 74, Integer.MIN_VALUE, Integer.MAX_VALUE}) {
            due("pairOf what", x.pairOf(0, 0, 1, wrong), Checks.INVALID);
            due("against what", x.against(0, 0, wrong), Checks.INVALID);
        }
        due("pairOf pair", x.pairOf(0, 0, -2, 0), Checks.INVALID);
        due("pairOf", x.pairOf(0, 0, 1, 0), Checks.NOT_FOUND);
        due("against", x.against(0, 0, 0), Checks.NOT_FOUND);
        due("stateOf", x.stateOf(0, 0, 10), Checks.NOT_FOUND);
        due("fault of no text", x.fault(0), Checks.NOT_FOUND);
        x.kind(0, 0, 1);
        due("talk", x.talk(0, 1, 4), Checks.NOT_FOUND);
        due("talk what", x.talk(0, 1, 7), Checks.INVALID);
    }

    private static void notPossibleRatherThanLimit() {
        Checks.sentence("NOT_POSSIBLE rather than LIMIT_REACHED");
        MirroredTalks x = Checks.withPlans(
                "0!c1d1e1f1;1!c2d2e2f2;2!c3d3e3f3;3!c4d4e4f4;4!c5d5e5f5;5!c6d6e6f6;6!b0a7;",
                "0?c0d0e0f0b1;1?c1d1e1f1b2;2?c2d2e2f2b3;3?c3d3e3f3b4;4?c4d4e4f4b5;5?c5d5e5f5a7;");
        due("above the limit", x.talks(0, 1), Checks.LIMIT);
        x.arrow(0, 6, 5, 6);
        due("without end, too", x.talks(0, 1), Checks.NOT_POSSIBLE);
        due("the other way", x.talks(1, 0), Checks.NOT_POSSIBLE);
    }

    private static void errorsChangeNothing() {
        Checks.sentence("A call that returns an error changes nothing.");
        dueNoTrace("kind plan", x -> x.kind(3, 0, 1), Checks.INVALID);
        dueNoTrace("kind state", x -> x.kind(0, 8, 1), Checks.INVALID);
        dueNoTrace("kind kind", x -> x.kind(0, 0, 3), Checks.INVALID);
        dueNoTrace("arrow plan", x -> x.arrow(-1, 0, 0, 0), Checks.INVALID);
        dueNoTrace("arrow state", x -> x.arrow(0, -1, 0, 0), Checks.INVALID);
        dueNoTrace("arrow word", x -> x.arrow(0, 0, 6, 0), Checks.INVALID);
        dueNoTrace("arrow to", x -> x.arrow(0, 0, 0, 8), Checks.INVALID);
        dueNoTrace("erase plan", x -> x.erase(3, 0, 0), Checks.INVALID);
        dueNoTrace("erase state", x -> x.erase(0, 8, 0), Checks.INVALID);
        dueNoTrace("erase word", x -> x.erase(0, 0, -1), Checks.INVALID);
        dueNoTrace("erase none", x -> x.erase(0, 0, 5), Checks.NOT_POSSIBLE);
        dueNoTrace("copy plan", x -> x.copy(3, 0), Checks.INVALID);
        dueNoTrace("copy into", x -> x.copy(0, -1), Checks.INVALID);
        dueNoTrace("copy over itself", x -> x.copy(1, 1), Checks.INVALID);
        dueNoTrace("mirror", x -> x.mirror(3), Checks.INVALID);
        dueNoTrace("stateOf", x -> x.stateOf(0, 0, 4), Checks.INVALID);
        dueNoTrace("stateOf no arrow", x -> x.stateOf(0, 0, 15), Checks.NOT_FOUND);
        dueNoTrace("unlike", x -> x.unlike(3), Checks.INVALID);
        dueNoTrace("pairOf", x -> x.pairOf(0, 1, -2, 0), Checks.INVALID);
        dueNoTrace("pairOf no pair", x -> x.pairOf(0, 1, 64, 0), Checks.NOT_FOUND);
        dueNoTrace("talk", x -> x.talk(0, 1, 7), Checks.INVALID);
        dueNoTrace("talk no end", x -> x.talk(0, 1, 4), Checks.NOT_FOUND);
        dueNoTrace("talks", x -> x.talks(0, 3), Checks.INVALID);
        dueNoTrace("talks endless", x -> x.talks(0, 1), Checks.NOT_POSSIBLE);
        dueNoTrace("standsIn", x -> x.standsIn(3, 0), Checks.INVALID);
        dueNoTrace("against", x -> x.against(0, 0, 74), Checks.INVALID);
        dueNoTrace("against no word", x -> x.against(0, 1, 4), Checks.NOT_FOUND);
        dueNoTrace("count", x -> x.count(19), Checks.INVALID);
        dueNoTrace("type", x -> x.type(127), Checks.INVALID);
        dueNoTrace("fault", x -> x.fault(3), Checks.INVALID);
        dueNoTrace("read plan", x -> x.read(3), Checks.INVALID);
        dueNoTrace("read of a fault", x -> x.read(0), Checks.NOT_POSSIBLE);
        MirroredTalks empty = new MirroredTalks();
        String before = all(empty);
        due("undo of nothing", empty.undo(), Checks.NOT_POSSIBLE);
        Checks.due("nothing changes", all(empty), before);
        MirroredTalks full = Checks.withText("0.;".repeat(26) + "1!");
        String ahead = all(full);
        due("type into a full text", full.type(';'), Checks.LIMIT);
        Checks.due("the text stays", all(full), ahead);
    }

    private static void theConstants() {
        Checks.sentence("INVALID_ARGUMENT = -1000001");
        due("INVALID_ARGUMENT", MirroredTalks.INVALID_ARGUMENT, -1000001);
        due("NOT_POSSIBLE", MirroredTalks.NOT_POSSIBLE, -1000002);
        due("LIMIT_REACHED", MirroredTalks.LIMIT_REACHED, -1000003);
        due("NOT_FOUND", MirroredTalks.NOT_FOUND, -1000004);
    }

    private static void statesThatDoNotEnd() {
        Checks.sentence("0: states that do not end, of all plans");
        MirroredTalks x = new MirroredTalks();
        due("none", x.count(0), 0);
        for (int number = 0; number < 24; number++) {
            x.kind(number % 3, number / 3, 1 + number % 2);
            due("up to " + number, x.count(0), number + 1);
            x.kind(number % 3, number / 3, 2 - number % 2);
            due("of another kind", x.count(0), number + 1);
        }
        for (int number = 0; number < 24; number++) {
            x.kind(number / 8, number % 8, 0);
            due("without " + number, x.count(0), 23 - number);
        }
    }

    private static void arrowsOfAllPlans() {
        Checks.sentence("1: arrows of all plans");
        MirroredTalks x = new MirroredTalks();
        due("none", x.count(1), 0);
        for (int number = 0; number < 144; number++) {
            x.arrow(number % 3, number / 3 % 8, number / 24, 0);
            due("up to " + number, x.count(1), number + 1);
        }
        x.arrow(2, 7, 5, 7);
        due("in place", x.count(1), 144);
        x.erase(0, 0, 0);
        due("without one", x.count(1), 143);
        x.copy(0, 1);
        due("with a copy", x.count(1), 142);
    }

    private static void statesInTheHistory() {
        Checks.sentence("2: states in the history");
        MirroredTalks x = new MirroredTalks();
        int[] states = {1, 2, 3, 4, 4, 4};
        due("none", x.count(2), 0);
        for (int number : states) {
            x.mirror(0);
            due("change", x.count(2), number);
        }
        for (int left = 3; left >= 0; left--) {
            x.undo();
            due("undo", x.count(2), left);
        }
        x.undo();
        due("refused", x.count(2), 0);
    }

    private static void lengthOfTheText() {
        Checks.sentence("3: the length of the text");
        MirroredTalks x = new MirroredTalks();
        for (int length = 0; length <= 80; length++) {
            due("length", x.count(3), length);
            x.type(' ');
        }
        due("full", x.count(3), 80);
        x.type(' ');
        due("refused", x.count(3), 80);
        x.clearText();
        due("emptied", x.count(3), 0);
    }

    private static void for512Calls() {
        Checks.sentence("An object is used for at most 512 calls after it has been made");
        MirroredTalks changes = new MirroredTalks();
        for (int call = 1; call <= 511; call++) {
            due("arrow at call " + call, changes.arrow(0, 0, 0, call % 8), 1);
        }
        due("the 512th call", changes.undo(), 3);
        MirroredTalks texts = new MirroredTalks();
        for (int call = 1; call <= 510; call++) {
            int character = "0.;1!;2?".charAt((call - 1) % 9 % 8);
            due("type at call " + call, call % 9 == 0 ? texts.clearText() : texts.type(character),
                    call % 9 == 0 ? 8 : call % 9);
        }
        // 510 calls leave six characters behind the last emptying.
        due("the 511th call", texts.fault(0), Checks.NOT_FOUND);
        due("the 512th call", texts.read(2), 2);
        MirroredTalks asked = Checks.withPlans("0!a1b0;", "0?a1b0;");
        for (int call = 30; call <= 512; call++) {
            due("talk at call " + call, asked.talk(0, 1, 0), 2);
        }
    }
}
