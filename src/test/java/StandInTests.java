/** Promises 12 and 13: which plans can stand in for which, and why not. */
public final class StandInTests {
    private StandInTests() {
    }

    public static void main(String[] args) {
        kinds();
        choosers();
        waiters();
        backToItself();
        fewestWords();
        orderOfReasons();
        arrowsOfEnds();
        longestRow();
        wrongArguments();
        Checks.end();
    }

    private static void due(String what, long got, long want) {
        Checks.due(what, got, want);
    }

    private static void dueStandsIn(MirroredTalks x, int one, int other) {
        due("standsIn " + one + other, x.standsIn(one, other), 1);
        due("count " + one + other, x.count(10 + 3 * one + other), 1);
        for (int what : new int[] {0, 1, 2, 3, 4, 10, 73}) {
            due("against " + one + other + ", " + what, x.against(one, other, what), Checks.NOT_FOUND);
        }
    }

    private static void dueAgainst(MirroredTalks x, int one, int other, String row, int state, int otherState,
            int reason, int word) {
        String pair = "against " + one + other + ", ";
        due("standsIn " + one + other, x.standsIn(one, other), 0);
        due("count " + one + other, x.count(10 + 3 * one + other), 0);
        due(pair + 0, x.against(one, other, 0), row.length());
        due(pair + 1, x.against(one, other, 1), state);
        due(pair + 2, x.against(one, other, 2), otherState);
        due(pair + 3, x.against(one, other, 3), reason);
        due(pair + 4, x.against(one, other, 4), word);
        for (int k = 0; k < 64; k++) {
            due(pair + "word " + k, x.against(one, other, 10 + k),
                    k < row.length() ? row.charAt(k) - 'a' : Checks.NOT_FOUND);
        }
    }

    private static void kinds() {
        int[][] want = {{0, 1, 1}, {1, 2, 1}, {1, 1, 0}};
        for (int kind = 0; kind < 3; kind++) {
            for (int otherKind = 0; otherKind < 3; otherKind++) {
                MirroredTalks x = new MirroredTalks();
                x.kind(0, 0, kind);
                x.kind(1, 0, otherKind);
                if (want[kind][otherKind] == 0) {
                    dueStandsIn(x, 0, 1);
                } else {
                    dueAgainst(x, 0, 1, "", 0, 0, want[kind][otherKind], Checks.NOT_FOUND);
                }
            }
        }
    }

    private static void choosers() {
        MirroredTalks x = Checks.withPlans("0!a1c1;", "0!a1b1c1f2;", "0!;");
        dueStandsIn(x, 0, 1);
        dueStandsIn(x, 0, 0);
        dueAgainst(x, 1, 0, "", 0, 0, 3, 1);
        // Without an arrow none chooses, not even for itself.
        dueAgainst(x, 2, 0, "", 0, 0, 2, Checks.NOT_FOUND);
        dueAgainst(x, 2, 2, "", 0, 0, 2, Checks.NOT_FOUND);
        dueAgainst(x, 0, 2, "", 0, 0, 3, 0);
    }

    private static void waiters() {
        MirroredTalks x = Checks.withPlans("0?a1c1;", "0?a1b1c1f2;", "0?;");
        dueStandsIn(x, 1, 0);
        dueStandsIn(x, 0, 0);
        dueAgainst(x, 0, 1, "", 0, 0, 3, 1);
        // One that waits needs no arrow.
        dueStandsIn(x, 2, 2);
        dueStandsIn(x, 0, 2);
        dueAgainst(x, 2, 0, "", 0, 0, 3, 0);
        // What is behind a word that is not wanted does not matter.
        x.kind(1, 2, 1);
        dueStandsIn(x, 1, 0);
    }

    private static void backToItself() {
        // Loops of two and of three states.
        MirroredTalks x = Checks.withPlans("0!a1;1!a0;", "0!a1;1!a2;2!a0;", "0!a1;1!a2;2!a3;");
        dueStandsIn(x, 0, 1);
        dueStandsIn(x, 1, 0);
        dueAgainst(x, 0, 2, "aaa", 1, 3, 1, Checks.NOT_FOUND);
        dueAgainst(x, 2, 1, "aaa", 3, 0, 1, Checks.NOT_FOUND);
        x.kind(1, 2, 2);
        dueAgainst(x, 0, 1, "aa", 0, 2, 1, Checks.NOT_FOUND);
    }

    private static void fewestWords() {
        // By "f" there is something against it, and by "ab" and "ba", too.
        MirroredTalks x = Checks.withPlans("0!a1b2f4;1?b3;2?a3;3!c0;4!;", "0!a1b2f4;1?b3;2?a3;3?;4!a1;");
        dueAgainst(x, 0, 1, "f", 4, 4, 2, Checks.NOT_FOUND);
        x.arrow(0, 4, 0, 1);
        dueAgainst(x, 0, 1, "ab", 3, 3, 1, Checks.NOT_FOUND);
        x.arrow(0, 1, 1, 5);
        x.arrow(1, 1, 1, 5);
        dueAgainst(x, 0, 1, "ba", 3, 3, 1, Checks.NOT_FOUND);
        x.erase(0, 2, 0);
        dueAgainst(x, 0, 1, "b", 2, 2, 3, 0);
        // Of several by one word the first letter, though it leads to higher states.
        MirroredTalks y = Checks.withPlans("0?b1a7c2;1!a0;7!a0;2!a0;", "0?a6b2c1;");
        dueAgainst(y, 0, 1, "a", 7, 6, 1, Checks.NOT_FOUND);
    }

    private static void orderOfReasons() {
        MirroredTalks x = Checks.withPlans("0!;", "0?a1;", "0!e0f0;");
        due("kinds before no arrow", x.against(0, 1, 3), 1);
        due("no word", x.against(0, 1, 4), Checks.NOT_FOUND);
        due("kinds before a word", x.against(2, 1, 3), 1);
        due("no word of unlike kinds", x.against(2, 1, 4), Checks.NOT_FOUND);
        due("kinds, the other way", x.against(1, 2, 3), 1);
        due("no arrow before a word", x.against(0, 2, 3), 2);
        due("first word wanted", x.against(2, 0, 4), 4);
        x.arrow(0, 0, 4, 0);
        due("the next one", x.against(2, 0, 4), 5);
    }

    private static void arrowsOfEnds() {
        MirroredTalks x = new MirroredTalks();
        x.arrow(0, 0, 0, 1);
        x.kind(0, 1, 1);
        dueStandsIn(x, 0, 1);
        dueStandsIn(x, 1, 0);
        dueStandsIn(x, 0, 0);
    }

    private static void longestRow() {
        // Loops of 8 and of 7 states, of which the pair that comes last is against it.
        MirroredTalks x = Checks.withPlans(
                "0?a1;1?a2;2?a3;3?a4;4?a5;5?a6;6?a7;7?a0;", "0?a1;1?a2;2?a3;3?a4;4?a5;5?a6;6?a0;");
        dueStandsIn(x, 0, 1);
        // b in state 6 is wanted in each state of the one: the first one to lack it comes at last.
        x.arrow(1, 6, 1, 6);
        for (int state = 0; state < 7; state++) {
            x.arrow(0, state, 1, state);
        }
        dueAgainst(x, 0, 1, "a".repeat(55), 7, 6, 3, 1);
    }

    private static void wrongArguments() {
        MirroredTalks x = new MirroredTalks();
        for (int wrong : Checks.outside(2)) {
            due("standsIn one", x.standsIn(wrong, 0), Checks.INVALID);
            due("standsIn other", x.standsIn(0, wrong), Checks.INVALID);
            due("against one", x.against(wrong, 0, 0), Checks.INVALID);
            due("against other", x.against(0, wrong, 0), Checks.INVALID);
        }
        for (int what : new int[] {-1, 5, 9, 74, Integer.MIN_VALUE, Integer.MAX_VALUE}) {
            due("against what", x.against(0, 0, what), Checks.INVALID);
        }
        due("asking is no change", x.count(2), 0);
    }
}
