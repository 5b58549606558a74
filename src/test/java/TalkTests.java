/** Promises 9 to 11: what two plans come to when they talk. */
public final class TalkTests {
    private TalkTests() {
    }

    public static void main(String[] args) {
        plainTalk();
        orderOfPairs();
        firstRowOfAPair();
        reasons();
        missingCases();
        longestRow();
        endless();
        arrowsOfEnds();
        limitOfTalks();
        wrongArguments();
        Checks.end();
    }

    private static void due(String what, long got, long want) {
        Checks.due(what, got, want);
    }

    private static void dueTalk(MirroredTalks x, int one, int other, long... want) {
        for (int what = 0; what < want.length; what++) {
            due("talk(" + one + ", " + other + ", " + what + ")", x.talk(one, other, what), want[what]);
        }
    }

    private static void dueRow(MirroredTalks x, int pair, String row) {
        due("length of pair " + pair, x.pairOf(0, 1, pair, 2), row.length());
        for (int k = 0; k < 64; k++) {
            due("word " + k + " of pair " + pair, x.pairOf(0, 1, pair, 10 + k),
                    k < row.length() ? row.charAt(k) - 'a' : Checks.NOT_FOUND);
        }
    }

    private static void plainTalk() {
        MirroredTalks x = Checks.withPlans("0!a1b2;1?c5;2?d5;", "0?a3b4;3!c6;4!d6;");
        dueTalk(x, 0, 1, 4, 0, 1, 0, 2, 1 + 2 + 4 + 32, 1 + 8 + 16 + 64);
        dueTalk(x, 1, 0, 4, 0, 1, 0, 2, 1 + 8 + 16 + 64, 1 + 2 + 4 + 32);
        due("talks", x.talks(0, 1), 2);
        due("one of the last pair", x.pairOf(0, 1, 3, 0), 5);
        due("other one of it", x.pairOf(0, 1, 3, 1), 6);
        due("no reason", x.pairOf(0, 1, 3, 3), 0);
        due("no case", x.pairOf(0, 1, 3, 4), Checks.NOT_FOUND);
        dueRow(x, 0, "");
        dueRow(x, 1, "a");
        dueRow(x, 2, "b");
        dueRow(x, 3, "ac");
        due("no such pair", x.pairOf(0, 1, 4, 0), Checks.NOT_FOUND);
        due("none is stuck", x.pairOf(0, 1, -1, 0), Checks.NOT_FOUND);
        // The plan that all states end comes to an end at once.
        dueTalk(x, 2, 2, 1, 0, 1, 0, 0, 1, 1);
        due("the empty row", x.talks(2, 2), 1);
        // A plan with itself: both choose.
        dueTalk(x, 0, 0, 1, 1, 0, 0, Checks.NOT_FOUND, 1, 1);
        due("no row", x.talks(0, 0), 0);
    }

    private static void orderOfPairs() {
        // a leads to higher states than b, and the order is by the letters.
        MirroredTalks x = Checks.withPlans("0?a6b1f2;1!a7;6!b5;2!a3;", "0!f1b2a4;4?b7;2?a1;1?a2;");
        int[] ones = {0, 6, 1, 2, 5, 7, 3};
        int[] others = {0, 4, 2, 1, 7, 1, 2};
        due("pairs", x.talk(0, 1, 0), ones.length);
        for (int pair = 0; pair < ones.length; pair++) {
            due("one of " + pair, x.pairOf(0, 1, pair, 0), ones[pair]);
            due("other of " + pair, x.pairOf(0, 1, pair, 1), others[pair]);
        }
        due("states of the one", x.talk(0, 1, 5), 1 + 2 + 4 + 8 + 32 + 64 + 128);
        due("states of the other one", x.talk(0, 1, 6), 1 + 2 + 4 + 16 + 128);
        // (7, 1) and (3, 2) come to one of both that ends.
        due("stuck", x.talk(0, 1, 1), 2);
        due("first stuck one", x.pairOf(0, 1, -1, 0), 7);
        due("first stuck other", x.pairOf(0, 1, -1, 1), 1);
        due("first stuck length", x.pairOf(0, 1, -1, 2), 2);
        due("first stuck reason", x.pairOf(0, 1, -1, 3), 1);
        due("first stuck case", x.pairOf(0, 1, -1, 4), Checks.NOT_FOUND);
        due("first stuck word 0", x.pairOf(0, 1, -1, 10), 1);
        due("first stuck word 1", x.pairOf(0, 1, -1, 11), 0);
        due("first stuck word 2", x.pairOf(0, 1, -1, 12), Checks.NOT_FOUND);
        due("end", x.talk(0, 1, 4), 2);
        due("rows to ends", x.talks(0, 1), 1);
    }

    private static void firstRowOfAPair() {
        // (3, 3) by "aaa", by "f" and by "ba": the fewest words are told; (4, 4) by "fb", not by "fc".
        MirroredTalks x = Checks.withPlans("0!a1b2f3;1!a2;2!a3;3!b4c4;", "0?a1b2f3;1?a2;2?a3;3?b4c4;");
        due("pairs", x.talk(0, 1, 0), 5);
        dueRow(x, 1, "a");
        dueRow(x, 2, "b");
        dueRow(x, 3, "f");
        dueRow(x, 4, "fb");
        due("talks: 3 ways to (3, 3), 2 behind it", x.talks(0, 1), 6);
        // Of two rows of the same length the first one, though both pairs on the way come to it.
        MirroredTalks y = Checks.withPlans("0!b1a2;1!a3;2!f3;", "0?b1a2;1?a3;2?f3;");
        dueRow(y, 1, "a");
        dueRow(y, 3, "af");
        due("fewest words to an end", y.talk(0, 1, 4), 2);
    }

    private static void reasons() {
        MirroredTalks x = new MirroredTalks();
        int[][] want = {{0, 1, 1}, {1, 3, 4}, {1, 4, 2}};
        for (int kind = 0; kind < 3; kind++) {
            for (int otherKind = 0; otherKind < 3; otherKind++) {
                x.kind(0, 0, kind);
                x.kind(1, 0, otherKind);
                due("reason " + kind + otherKind, x.pairOf(0, 1, 0, 3), want[kind][otherKind]);
                due("stuck " + kind + otherKind, x.talk(0, 1, 1), want[kind][otherKind] == 0 ? 0 : 1);
                due("case " + kind + otherKind, x.pairOf(0, 1, 0, 4), Checks.NOT_FOUND);
            }
        }
        // Arrows of one that waits do not make up for the chooser's.
        MirroredTalks y = Checks.withPlans("0!;", "0?a1b2;");
        due("no arrow", y.pairOf(0, 1, 0, 3), 4);
        due("no arrow, the other way", y.pairOf(1, 0, 0, 3), 4);
        due("no case", y.pairOf(0, 1, 0, 4), Checks.NOT_FOUND);
        // With arrows, but the kinds come first.
        MirroredTalks z = Checks.withPlans("0!a1b2;", "0!c1;", "0?a1b2;");
        due("both choose", z.pairOf(0, 1, 0, 3), 3);
        due("no case if both choose", z.pairOf(0, 1, 0, 4), Checks.NOT_FOUND);
        due("both wait", z.pairOf(2, 2, 0, 3), 2);
        due("they go no further", z.talk(2, 2, 0), 1);
    }

    private static void missingCases() {
        MirroredTalks x = Checks.withPlans("0!b1d2e3;", "0?a1d2f1;", "0?b3d3e3;");
        due("reason", x.pairOf(0, 1, 0, 3), 5);
        due("first word", x.pairOf(0, 1, 0, 4), 1);
        due("the other way", x.pairOf(1, 0, 0, 4), 1);
        due("they go on by d", x.talk(0, 1, 0), 2);
        due("to an end", x.talks(0, 1), 1);
        due("stuck", x.talk(0, 1, 1), 1);
        due("all cases", x.pairOf(0, 2, 0, 3), 0);
        due("more cases than words", x.pairOf(0, 2, 0, 4), Checks.NOT_FOUND);
        x.arrow(1, 0, 1, 1);
        due("the next word", x.pairOf(0, 1, 0, 4), 4);
        x.arrow(1, 0, 4, 1);
        due("none", x.pairOf(0, 1, 0, 3), 0);
        due("none of them", x.pairOf(0, 1, 0, 4), Checks.NOT_FOUND);
        MirroredTalks f = Checks.withPlans("0!f1;", "0?;");
        due("last word", f.pairOf(0, 1, 0, 4), 5);
        due("no word in common", f.talk(0, 1, 0), 1);
    }

    private static void longestRow() {
        // Loops of 8 and of 7 states come to 56 pairs, the last one by 55 words.
        MirroredTalks x = Checks.withPlans(
                "0!a1;1!a2;2!a3;3!a4;4!a5;5!a6;6!a7;7!a0;", "0?a1;1?a2;2?a3;3?a4;4?a5;5?a6;6?a0;");
        dueTalk(x, 0, 1, 56, 0, 0, 1, Checks.NOT_FOUND, 255, 127);
        dueRow(x, 55, "a".repeat(55));
        due("one of the last", x.pairOf(0, 1, 55, 0), 7);
        due("other of the last", x.pairOf(0, 1, 55, 1), 6);
        due("no more", x.pairOf(0, 1, 56, 0), Checks.NOT_FOUND);
        // With a jump to a loop's middle by b all 64 pairs are come to.
        MirroredTalks y = Checks.withPlans(
                "0!a1b0;1!a2;2!a3;3!a4;4!a5;5!a6;6!a7;7!a0;",
                "0?a1b1;1?a2b2;2?a3b3;3?a4b4;4?a5b5;5?a6b6;6?a7b7;7?a0b0;");
        due("all pairs", y.talk(0, 1, 0), 64);
        due("the last of them", y.pairOf(0, 1, 63, 2) > 0 ? 1 : 0, 1);
        due("no more than all", y.pairOf(0, 1, 64, 0), Checks.NOT_FOUND);
    }

    private static void endless() {
        // To itself at once.
        MirroredTalks self = Checks.withPlans("0!a0;", "0?a0;");
        dueTalk(self, 0, 1, 1, 0, 0, 1, Checks.NOT_FOUND, 1, 1);
        due("endless to no end", self.talks(0, 1), Checks.NOT_POSSIBLE);
        // Endless beside an end, and behind a case that is missing.
        MirroredTalks x = Checks.withPlans("0!a1b2c3;2?a0;", "0?a1b2;2!a0b3;");
        dueTalk(x, 0, 1, 3, 2, 1, 1, 1, 7, 7);
        due("endless", x.talks(0, 1), Checks.NOT_POSSIBLE);
        x.erase(1, 2, 0);
        dueTalk(x, 0, 1, 3, 2, 1, 0, 1, 7, 7);
        due("no longer", x.talks(0, 1), 1);
        // A plan that comes back to itself, while the other one does not.
        MirroredTalks y = Checks.withPlans("0!a0;", "0?a1;1?a2;2?a3;");
        dueTalk(y, 0, 1, 4, 1, 0, 0, Checks.NOT_FOUND, 1, 15);
        due("no row", y.talks(0, 1), 0);
        // Two ways to one pair are no way back.
        MirroredTalks z = Checks.withPlans("0!a1b1c1d1e1f1;1!a2b2;", "0?a1b1c1d1e1f1;1?a2b2;");
        due("no way back", z.talk(0, 1, 3), 0);
        due("six times two", z.talks(0, 1), 12);
        // A loop of pairs that they do not come to.
        MirroredTalks w = Checks.withPlans("0!a1;2!a2;", "0?a1;2?a2;");
        due("not come to", w.talk(0, 1, 3), 0);
    }

    private static void arrowsOfEnds() {
        MirroredTalks x = Checks.withPlans("0.;", "0?a1;", "0!a1;");
        x.arrow(0, 0, 0, 0);
        due("end and waiter", x.talk(0, 1, 0), 1);
        due("end and chooser", x.talk(0, 2, 0), 1);
        due("reason", x.pairOf(0, 2, 0, 3), 1);
        due("no case", x.pairOf(0, 2, 0, 4), Checks.NOT_FOUND);
        due("end with itself", x.talks(0, 0), 1);
        x.kind(0, 0, 1);
        due("when it chooses", x.talk(0, 1, 0), 2);
    }

    private static void limitOfTalks() {
        // 5 words in 15 places, 2 words in 15 places: 10 to the 15th.
        MirroredTalks x = Checks.withPlans(
                "0!c1;1!a2c2d2e2f2;2!a3c3d3e3f3;3!a4c4d4e4f4;4!a5c5d5e5f5;5!a6c6d6e6f6;6!b1a7;",
                "0?c1;1?a1c1d1e1f1b2;2?a2c2d2e2f2b3;3?a3c3d3e3f3b4;4?c4d4b5;5?c5d5b6;6?c6d6a7;");
        due("just the limit", x.talks(0, 1), 1000000000000000L);
        due("the other way", x.talks(1, 0), 1000000000000000L);
        x.arrow(0, 0, 1, 7);
        x.arrow(1, 0, 1, 7);
        due("one more", x.talks(0, 1), Checks.LIMIT);
        due("they do end", x.talk(0, 1, 3), 0);
        due("by one word", x.talk(0, 1, 4), 1);
        x.arrow(0, 7, 0, 0);
        due("arrows of ends do not matter", x.talks(0, 1), Checks.LIMIT);
        x.arrow(0, 0, 3, 0);
        x.arrow(1, 0, 3, 0);
        due("endless comes first", x.talks(0, 1), Checks.NOT_POSSIBLE);
        // 4 to the 42nd, far above any long.
        MirroredTalks far = Checks.withPlans(
                "0!c1d1e1f1;1!c2d2e2f2;2!c3d3e3f3;3!c4d4e4f4;4!c5d5e5f5;5!c6d6e6f6;6!b0a7;",
                "0?c0d0e0f0b1;1?c1d1e1f1b2;2?c2d2e2f2b3;3?c3d3e3f3b4;4?c4d4e4f4b5;5?a7;");
        for (int word = 2; word < 6; word++) {
            far.arrow(1, 5, word, 5);
        }
        due("far above", far.talks(0, 1), Checks.LIMIT);
        far.arrow(0, 6, 0, 6);
        due("rows that come to no end do not count", far.talks(0, 1), 0);
    }

    private static void wrongArguments() {
        MirroredTalks x = new MirroredTalks();
        for (int wrong : Checks.outside(2)) {
            due("pairOf one", x.pairOf(wrong, 0, 5, 4), Checks.INVALID);
            due("pairOf other", x.pairOf(0, wrong, 5, 4), Checks.INVALID);
            due("talk one", x.talk(wrong, 0, 4), Checks.INVALID);
            due("talk other", x.talk(0, wrong, 4), Checks.INVALID);
            due("talks one", x.talks(wrong, 0), Checks.INVALID);
            due("talks other", x.talks(0, wrong), Checks.INVALID);
        }
        for (int what : Checks.outside(6)) {
            due("talk what", x.talk(0, 0, what), Checks.INVALID);
        }
        for (int what : new int[] {-1, 5, 9, 74, Integer.MIN_VALUE, Integer.MAX_VALUE}) {
            due("pairOf what", x.pairOf(0, 0, 0, what), Checks.INVALID);
            due("pairOf what of no pair", x.pairOf(0, 0, 1, what), Checks.INVALID);
        }
        due("pairOf pair", x.pairOf(0, 0, -2, 0), Checks.INVALID);
        due("pairOf least pair", x.pairOf(0, 0, Integer.MIN_VALUE, 0), Checks.INVALID);
        due("pairOf far pair", x.pairOf(0, 0, Integer.MAX_VALUE, 0), Checks.NOT_FOUND);
        due("pairOf last word", x.pairOf(0, 0, 0, 73), Checks.NOT_FOUND);
        due("asking is no change", x.count(2), 0);
    }
}
