/** Promises 1 to 8, 14 and 15: plans, their states, counts and the history. */
public final class PlanTests {
    private PlanTests() {
    }

    public static void main(String[] args) {
        newObject();
        kind();
        arrow();
        erase();
        copy();
        mirror();
        stateOf();
        statesComeTo();
        statesAlike();
        statesAlikeByTheLowest();
        unlike();
        count();
        undo();
        historyKeepsFour();
        errorsChangeNothing();
        Checks.end();
    }

    private static void due(String what, long got, long want) {
        Checks.due(what, got, want);
    }

    private static void newObject() {
        MirroredTalks x = new MirroredTalks();
        for (int plan = 0; plan < 3; plan++) {
            for (int state = 0; state < 8; state++) {
                due("new kind", x.stateOf(plan, state, 0), 0);
                due("new words", x.stateOf(plan, state, 1), 0);
                due("new alike", x.stateOf(plan, state, 2), 0);
                due("new comes to", x.stateOf(plan, state, 3), 1 << state);
                for (int word = 0; word < 6; word++) {
                    due("new arrow", x.stateOf(plan, state, 10 + word), Checks.NOT_FOUND);
                }
            }
            due("new unlike", x.unlike(plan), 1);
        }
        for (int what = 0; what < 4; what++) {
            due("new count", x.count(what), 0);
        }
        due("new undo", x.undo(), Checks.NOT_POSSIBLE);
        due("new fault", x.fault(1), Checks.NOT_FOUND);
    }

    private static void kind() {
        MirroredTalks x = new MirroredTalks();
        due("0 to 1", x.kind(2, 7, 1), 0);
        due("1 to 2", x.kind(2, 7, 2), 1);
        due("2 to 2", x.kind(2, 7, 2), 2);
        due("is 2", x.stateOf(2, 7, 0), 2);
        due("2 to 0", x.kind(2, 7, 0), 2);
        due("is 0", x.stateOf(2, 7, 0), 0);
        due("all are changes", x.count(2), 4);
        x.kind(1, 3, 1);
        due("no other plan", x.stateOf(0, 3, 0) + x.stateOf(2, 3, 0), 0);
        due("no other state", x.count(0), 1);
        for (int wrong : Checks.outside(2)) {
            due("kind plan", x.kind(wrong, 0, 0), Checks.INVALID);
            due("kind kind", x.kind(0, 0, wrong), Checks.INVALID);
        }
        for (int wrong : Checks.outside(7)) {
            due("kind state", x.kind(0, wrong, 0), Checks.INVALID);
        }
    }

    private static void arrow() {
        MirroredTalks x = new MirroredTalks();
        for (int word = 0; word < 6; word++) {
            due("arrow " + word, x.arrow(1, 4, word, 7 - word), word + 1);
        }
        due("in place", x.arrow(1, 4, 2, 4), 6);
        due("to itself", x.stateOf(1, 4, 12), 4);
        due("the others stay", x.stateOf(1, 4, 13), 4);
        due("first word", x.stateOf(1, 4, 10), 7);
        due("last word", x.stateOf(1, 4, 15), 2);
        due("a state that ends tells its words", x.stateOf(1, 4, 1), 63);
        due("no other plan", x.stateOf(0, 4, 1) + x.stateOf(2, 4, 1), 0);
        due("to 0", x.arrow(0, 7, 5, 0), 1);
        due("is 0", x.stateOf(0, 7, 15), 0);
        for (int wrong : Checks.outside(2)) {
            due("arrow plan", x.arrow(wrong, 0, 0, 0), Checks.INVALID);
        }
        for (int wrong : Checks.outside(7)) {
            due("arrow state", x.arrow(0, wrong, 0, 0), Checks.INVALID);
            due("arrow to", x.arrow(0, 0, 0, wrong), Checks.INVALID);
        }
        for (int wrong : Checks.outside(5)) {
            due("arrow word", x.arrow(0, 0, wrong, 0), Checks.INVALID);
        }
    }

    private static void erase() {
        MirroredTalks x = new MirroredTalks();
        x.arrow(2, 7, 5, 7);
        x.arrow(2, 7, 0, 0);
        due("erase 5", x.erase(2, 7, 5), 7);
        due("erase 5 again", x.erase(2, 7, 5), Checks.NOT_POSSIBLE);
        due("words left", x.stateOf(2, 7, 1), 1);
        due("erase 0", x.erase(2, 7, 0), 0);
        due("erase 0 again", x.erase(2, 7, 0), Checks.NOT_POSSIBLE);
        due("of another plan", x.erase(1, 7, 0), Checks.NOT_POSSIBLE);
        due("refused ones are no changes", x.count(2), 4);
        due("undo", x.undo(), 3);
        due("back again", x.stateOf(2, 7, 10), 0);
        for (int wrong : Checks.outside(2)) {
            due("erase plan", x.erase(wrong, 0, 0), Checks.INVALID);
        }
        for (int wrong : Checks.outside(7)) {
            due("erase state", x.erase(0, wrong, 0), Checks.INVALID);
        }
        for (int wrong : Checks.outside(5)) {
            due("erase word", x.erase(0, 0, wrong), Checks.INVALID);
        }
    }

    private static void copy() {
        MirroredTalks x = Checks.withPlans("0!a1;3?b7;7!;", "5!a1;6?;");
        x.arrow(0, 4, 5, 2);
        due("copy", x.copy(0, 2), 3);
        due("kind", x.stateOf(2, 3, 0), 2);
        due("arrow", x.stateOf(2, 3, 11), 7);
        due("arrow of a state that ends", x.stateOf(2, 4, 15), 2);
        x.kind(0, 3, 1);
        x.erase(0, 4, 5);
        due("the copy is on its own", x.stateOf(2, 3, 0), 2);
        due("its arrows, too", x.stateOf(2, 4, 15), 2);
        due("over another one", x.copy(1, 2), 2);
        due("nothing stays", x.stateOf(2, 3, 1), 0);
        due("the source stays", x.stateOf(1, 5, 10), 1);
        due("undo", x.undo(), 3);
        due("the one before it is back", x.stateOf(2, 3, 11), 7);
        for (int same = 0; same < 3; same++) {
            due("copy over itself", x.copy(same, same), Checks.INVALID);
        }
        for (int wrong : Checks.outside(2)) {
            due("copy plan", x.copy(wrong, 0), Checks.INVALID);
            due("copy into", x.copy(0, wrong), Checks.INVALID);
        }
    }

    private static void mirror() {
        MirroredTalks x = Checks.withPlans("", "0!a1;1?b0;2.;3?;");
        x.arrow(1, 2, 3, 4);
        due("mirror", x.mirror(1), 3);
        due("chooser waits", x.stateOf(1, 0, 0), 2);
        due("waiter chooses", x.stateOf(1, 1, 0), 1);
        due("end stays", x.stateOf(1, 2, 0), 0);
        due("arrow stays", x.stateOf(1, 0, 10), 1);
        due("arrow of an end stays", x.stateOf(1, 2, 13), 4);
        due("no other plan", x.mirror(0), 0);
        due("it is a change, too", x.undo(), 3);
        due("mirror again", x.mirror(1), 3);
        due("as before", x.stateOf(1, 0, 0), 1);
        for (int wrong : Checks.outside(2)) {
            due("mirror plan", x.mirror(wrong), Checks.INVALID);
        }
    }

    private static void stateOf() {
        MirroredTalks x = Checks.withPlans("", "", "6?a0c7f6;");
        due("kind", x.stateOf(2, 6, 0), 2);
        due("words", x.stateOf(2, 6, 1), 1 + 4 + 32);
        due("arrow a", x.stateOf(2, 6, 10), 0);
        due("arrow b", x.stateOf(2, 6, 11), Checks.NOT_FOUND);
        due("arrow c", x.stateOf(2, 6, 12), 7);
        due("arrow f", x.stateOf(2, 6, 15), 6);
        for (int what : new int[] {-1, 4, 5, 9, 16, Integer.MIN_VALUE, Integer.MAX_VALUE}) {
            due("stateOf what", x.stateOf(2, 6, what), Checks.INVALID);
        }
        for (int wrong : Checks.outside(2)) {
            due("stateOf plan", x.stateOf(wrong, 0, 15), Checks.INVALID);
        }
        for (int wrong : Checks.outside(7)) {
            due("stateOf state", x.stateOf(0, wrong, 15), Checks.INVALID);
        }
        due("asking is no change", x.count(2), 3);
    }

    private static void statesComeTo() {
        // The longest way, against the order of the states, and one that goes on behind an end.
        MirroredTalks x = Checks.withPlans("0!a7;7?a6;6!a5;5!a4;4!a3;3!a2;2!a1;", "0!a1b2;1?a1;2.;3!a0;");
        due("all", x.stateOf(0, 0, 3), 255);
        MirroredTalks down = Checks.withPlans("7!a6;6?a5;5!a4;4?a3;3!a2;2?a1;1!a0;");
        due("all, downwards", down.stateOf(0, 7, 3), 255);
        due("from the last one", x.stateOf(0, 1, 3), 2);
        due("from the middle", x.stateOf(0, 4, 3), 2 + 4 + 8 + 16);
        x.arrow(1, 2, 0, 3);
        due("not behind an end", x.stateOf(1, 0, 3), 7);
        due("an end itself", x.stateOf(1, 2, 3), 4);
        due("loop", x.stateOf(1, 1, 3), 2);
        x.kind(1, 2, 2);
        due("behind it when it waits", x.stateOf(1, 0, 3), 15);
    }

    private static void statesAlike() {
        // 1 and 4 come back to themselves; 2 and 5 differ only two words later.
        MirroredTalks x = Checks.withPlans("1!a1;4!a4;2!b3;5!b6;3?c7;6?c1;");
        due("loops", x.stateOf(0, 4, 2), 1);
        due("lowest itself", x.stateOf(0, 1, 2), 1);
        due("differ later", x.stateOf(0, 5, 2), 5);
        due("differ by one word", x.stateOf(0, 6, 2), 6);
        due("ends", x.stateOf(0, 7, 2), 0);
        x.arrow(0, 6, 2, 0);
        due("ends are alike", x.stateOf(0, 6, 2), 3);
        due("and what leads there", x.stateOf(0, 5, 2), 2);
        x.arrow(0, 7, 1, 1);
        due("ends with arrows are alike, too", x.stateOf(0, 7, 2), 0);
        x.kind(0, 7, 2);
        due("but not those that wait", x.stateOf(0, 7, 2), 7);
        x.kind(0, 4, 2);
        due("other kind", x.stateOf(0, 4, 2), 4);
        x.kind(0, 4, 1);
        x.arrow(0, 4, 1, 0);
        due("more words", x.stateOf(0, 4, 2), 4);
        // A chain in which the difference comes from the far end: no two are alike.
        MirroredTalks chain = Checks.withPlans(
                "0!a1;1!a2;2!a3;3!a4;4!a5;5!a6;6!a7;", "7!a6;6!a5;5!a4;4!a3;3!a2;2!a1;1!a0;");
        for (int state = 0; state < 8; state++) {
            due("chain", chain.stateOf(0, state, 2), state);
            due("chain back", chain.stateOf(1, state, 2), state);
        }
    }

    private static void statesAlikeByTheLowest() {
        // 1 and 2 lead to 3 and 0, which look alike, but lead to 4 and 5, which do not.
        MirroredTalks x = Checks.withPlans("0!a4;3!a5;1!b3;2!b0;4!c4;5?;");
        due("not by 0 and 3", x.stateOf(0, 2, 2), 2);
        due("3 itself", x.stateOf(0, 3, 2), 3);
        x.kind(0, 5, 0);
        x.kind(0, 4, 0);
        due("by 0 and 3", x.stateOf(0, 2, 2), 1);
        due("3 like 0", x.stateOf(0, 3, 2), 0);
    }

    private static void unlike() {
        MirroredTalks x = Checks.withPlans("0!a1b2;1?a3;2?a4;3!a5;4!a6;7!;", "0.;1!a0;", "0!a0b1;1!a1b0;");
        due("two of each", x.unlike(0), 4);
        due("only what is come to", x.unlike(1), 1);
        due("loops", x.unlike(2), 1);
        x.kind(2, 1, 2);
        due("of two kinds", x.unlike(2), 2);
        x.arrow(1, 0, 0, 1);
        due("not behind an end", x.unlike(1), 1);
        x.kind(1, 0, 2);
        due("behind one that waits", x.unlike(1), 2);
        // 3 is come to, but the lowest one alike, 1, is not.
        MirroredTalks y = Checks.withPlans("0!a3;1?;3?;");
        due("lowest one not come to", y.unlike(0), 2);
        MirroredTalks all = Checks.withPlans("0!a1;1!a2;2!a3;3!a4;4!a5;5!a6;6!a7;");
        due("all eight", all.unlike(0), 8);
        for (int wrong : Checks.outside(2)) {
            due("unlike plan", x.unlike(wrong), Checks.INVALID);
        }
    }

    private static void count() {
        MirroredTalks x = Checks.withPlans("0!a1b1;1?c0;", "7!;", "0?a0;");
        due("states", x.count(0), 4);
        due("arrows", x.count(1), 4);
        x.arrow(1, 5, 0, 0);
        due("arrows of ends count", x.count(1), 5);
        due("history", x.count(2), 4);
        due("text", x.count(3), 0);
        x.type(' ');
        due("text of one", x.count(3), 1);
        for (int one = 0; one < 3; one++) {
            for (int other = 0; other < 3; other++) {
                due("stands in " + one + other, x.count(10 + 3 * one + other), x.standsIn(one, other));
            }
        }
        MirroredTalks y = Checks.withPlans("0!a1;", "0!a1b1;", "0?;");
        due("0 for 1", y.count(11), 1);
        due("1 for 0", y.count(13), 0);
        due("2 for 2", y.count(18), 1);
        for (int what : new int[] {-1, 4, 9, 19, Integer.MIN_VALUE, Integer.MAX_VALUE}) {
            due("count what", x.count(what), Checks.INVALID);
        }
    }

    private static void undo() {
        MirroredTalks x = new MirroredTalks();
        x.kind(0, 0, 1);
        x.arrow(1, 2, 3, 4);
        Checks.write(x, "5!a6;");
        x.read(2);
        due("undo read", x.undo(), 2);
        due("plan", x.stateOf(2, 5, 0), 0);
        due("its arrow", x.stateOf(2, 5, 10), Checks.NOT_FOUND);
        due("the text stays", x.count(3), 5);
        due("undo arrow", x.undo(), 1);
        due("arrow", x.stateOf(1, 2, 13), Checks.NOT_FOUND);
        due("kind still", x.stateOf(0, 0, 0), 1);
        due("undo kind", x.undo(), 0);
        due("kind", x.stateOf(0, 0, 0), 0);
        due("no more", x.undo(), Checks.NOT_POSSIBLE);
        x.kind(0, 1, 2);
        due("goes on behind it", x.count(2), 1);
    }

    private static void historyKeepsFour() {
        MirroredTalks x = new MirroredTalks();
        for (int state = 0; state < 7; state++) {
            x.kind(state % 3, state, 1);
            due("history", x.count(2), Math.min(state + 1, 4));
        }
        for (int left = 3; left >= 0; left--) {
            due("undo", x.undo(), left);
            due("states", x.count(0), 3 + left);
        }
        due("the older ones are dropped", x.undo(), Checks.NOT_POSSIBLE);
        due("they stay", x.stateOf(2, 2, 0) + x.stateOf(1, 1, 0) + x.stateOf(0, 0, 0), 3);
        due("the next one is gone", x.stateOf(0, 3, 0), 0);
    }

    private static void errorsChangeNothing() {
        MirroredTalks x = Checks.withPlans("0!a1;");
        Checks.write(x, "0!a1;0");
        x.kind(0, 0, 3);
        x.arrow(0, 0, 0, 8);
        x.erase(0, 0, 1);
        x.copy(1, 1);
        x.mirror(3);
        x.read(0);
        x.read(3);
        x.type(127);
        due("history", x.count(2), 1);
        due("arrow", x.stateOf(0, 0, 10), 1);
        due("kind", x.stateOf(0, 0, 0), 1);
        due("text", x.count(3), 6);
    }
}
