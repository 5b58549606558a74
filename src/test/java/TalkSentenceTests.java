/** The sentences on talks, and promises 9 to 11: each boundary case that they name. */
public final class TalkSentenceTests {
    /** All 64 pairs one behind the other: a counts the other plan on, b the one when the other one begins again. */
    private static final String HIGH_DIGIT = "0!a0b1;1!a1b2;2!a2b3;3!a3b4;4!a4b5;5!a5b6;6!a6b7;7!a7;";
    private static final String LOW_DIGIT = "0?a1;1?a2;2?a3;3?a4;4?a5;5?a6;6?a7;7?b0;";
    private static final String ALL_PAIRS_ROW = "aaaaaaab".repeat(7) + "aaaaaaa";

    private TalkSentenceTests() {
    }

    public static void main(String[] args) {
        samePlanTwice();
        beginInTheStates0();
        bothBegin();
        comeToFrom00();
        oneChoosesTheOtherWaits();
        byWordsOfBoth();
        onlyOneEnds();
        bothWait();
        bothChoose();
        chooserWithoutArrow();
        missingCase();
        firstReasonThatHolds();
        onByTheOtherWords();
        bothEnd();
        fewerWordsFirst();
        letterByLetter();
        firstOfTheShortestRows();
        firstPairAndSoOn();
        firstStuckPair();
        numbersOfAPair();
        firstWordMissing();
        noSuchPair();
        noCaseMissing();
        notSoManyWords();
        lastWordOfTheLongestRow();
        howManyPairs();
        howManyStuck();
        howManyEnds();
        onWithoutEnd();
        fewestWordsToAnEnd();
        noEnd();
        statesComeTo();
        rowsToEnds();
        endlessToNoEnd();
        moreThanTheLimit();
        Checks.end();
    }

    private static void due(String what, long got, long want) {
        Checks.due(what, got, want);
    }

    private static void dueRow(MirroredTalks x, int one, int other, int pair, String row) {
        due("length of " + row, x.pairOf(one, other, pair, 2), row.length());
        for (int k = 0; k < 64; k++) {
            due("word " + k + " of " + row, x.pairOf(one, other, pair, 10 + k),
                    k < row.length() ? row.charAt(k) - 'a' : Checks.NOT_FOUND);
        }
    }

    private static void duePairs(MirroredTalks x, int one, int other, String... pairs) {
        due("pairs", x.talk(one, other, 0), pairs.length);
        for (int pair = 0; pair < pairs.length; pair++) {
            due("one of " + pairs[pair], x.pairOf(one, other, pair, 0), pairs[pair].charAt(0) - '0');
            due("other one of " + pairs[pair], x.pairOf(one, other, pair, 1), pairs[pair].charAt(1) - '0');
            due("words to " + pairs[pair], x.pairOf(one, other, pair, 2), pairs[pair].length() - 3);
        }
        due("behind the last one", x.pairOf(one, other, pairs.length, 0), Checks.NOT_FOUND);
    }

    private static void samePlanTwice() {
        Checks.sentence("Two plans (perhaps the same one twice) talk");
        int[] reasons = {0, 3, 2};
        for (int plan = 0; plan < 3; plan++) {
            for (int kind = 0; kind < 3; kind++) {
                MirroredTalks x = new MirroredTalks();
                x.kind(plan, 0, kind);
                x.arrow(plan, 0, 0, 1);
                due("pairs", x.talk(plan, plan, 0), 1);
                due("stuck", x.talk(plan, plan, 1), kind == 0 ? 0 : 1);
                due("reason", x.pairOf(plan, plan, 0, 3), reasons[kind]);
                due("talks", x.talks(plan, plan), kind == 0 ? 1 : 0);
            }
        }
    }

    private static void beginInTheStates0() {
        Checks.sentence("talks begin in the state 0");
        MirroredTalks x = Checks.withPlans("1!a2;", "1?a2;", "0?a1;");
        duePairs(x, 0, 1, "00 ");
        due("one of it", x.pairOf(0, 1, 0, 0), 0);
        due("other one of it", x.pairOf(0, 1, 0, 1), 0);
        due("it is an end", x.talk(0, 1, 2), 1);
        x.kind(0, 0, 1);
        x.arrow(0, 0, 0, 7);
        duePairs(x, 0, 2, "00 ", "71 a");
    }

    private static void bothBegin() {
        Checks.sentence("both begin in their states 0");
        for (int one = 0; one < 3; one++) {
            for (int other = 0; other < 3; other++) {
                MirroredTalks x = Checks.withPlans("0!a1;1!b1;", "0?a1;7!b7;", "0.;1?a0;");
                due("one of " + one + other, x.pairOf(one, other, 0, 0), 0);
                due("other one of " + one + other, x.pairOf(one, other, 0, 1), 0);
                due("words to it", x.pairOf(one, other, 0, 2), 0);
                due("states", x.talk(one, other, 5) & x.talk(one, other, 6) & 1, 1);
            }
        }
    }

    private static void comeToFrom00() {
        Checks.sentence("Pairs are come to from (0, 0) by going along arrows.");
        // (1, 2) and (2, 1) are not come to, though 1 and 2 are; (3, 3) is by two ways, (4, 4) by none.
        MirroredTalks x = Checks.withPlans("0!a1b2;1!c3;2!c3;4!d4;", "0?a1b2;1?c3;2?c3;4?d4;");
        duePairs(x, 0, 1, "00 ", "11 a", "22 b", "33 ac");
        due("the first one has no words", x.pairOf(0, 1, 0, 10), Checks.NOT_FOUND);
        // To (0, 0) they come without an arrow, and once more by one.
        MirroredTalks y = Checks.withPlans("0!f0;", "0?f0;");
        duePairs(y, 0, 1, "00 ");
    }

    private static void oneChoosesTheOtherWaits() {
        Checks.sentence("If one of them chooses and the other one waits");
        int[][] pairs = {{1, 1, 1}, {1, 1, 2}, {1, 2, 1}};
        for (int kind = 0; kind < 3; kind++) {
            for (int otherKind = 0; otherKind < 3; otherKind++) {
                MirroredTalks x = Checks.withPlans("0!f3;", "0!f4;");
                x.kind(0, 0, kind);
                x.kind(1, 0, otherKind);
                due("kinds " + kind + otherKind, x.talk(0, 1, 0), pairs[kind][otherKind]);
                due("kinds " + otherKind + kind, x.talk(1, 0, 0), pairs[kind][otherKind]);
            }
        }
        MirroredTalks turns = Checks.withPlans("0!a1;1?b2;2!c3;3?d0;", "0?a1;1!b2;2?c3;3!d0;");
        duePairs(turns, 0, 1, "00 ", "11 a", "22 ab", "33 abc");
        due("by turns without end", turns.talk(0, 1, 3), 1);
    }

    private static void byWordsOfBoth() {
        Checks.sentence("the chooser has an arrow by a word for which the waiter has one, too, both can go along"
                + " their arrows by this word");
        for (int word = 0; word < 6; word++) {
            MirroredTalks x = Checks.withPlans("0!;", "0?;", "0?;");
            x.arrow(0, 0, word, 7);
            x.arrow(1, 0, word, 6);
            x.arrow(2, 0, (word + 1) % 6, 6);
            duePairs(x, 0, 1, "00 ", "76 " + (char) ('a' + word));
            duePairs(x, 1, 0, "00 ", "67 " + (char) ('a' + word));
            duePairs(x, 0, 2, "00 ");
            due("the word", x.pairOf(0, 1, 1, 10), word);
            due("their end", x.talks(0, 1), 1);
        }
    }

    private static void onlyOneEnds() {
        Checks.sentence("1 one of both ends and the other one does not");
        MirroredTalks x = Checks.withPlans("0.;", "0!;", "0?;");
        for (int plan = 1; plan < 3; plan++) {
            due("ends first", x.pairOf(0, plan, 0, 3), 1);
            due("ends second", x.pairOf(plan, 0, 0, 3), 1);
            x.arrow(plan, 0, 2, 1);
            x.arrow(0, 0, 2, 1);
            due("ends first, with arrows", x.pairOf(0, plan, 0, 3), 1);
            due("ends second, with arrows", x.pairOf(plan, 0, 0, 3), 1);
            due("they go no further", x.talk(0, plan, 0), 1);
        }
    }

    private static void bothWait() {
        Checks.sentence("2 both wait");
        MirroredTalks x = Checks.withPlans("0?a1b2;", "0?a1;", "0?;");
        for (int one = 0; one < 3; one++) {
            for (int other = 0; other < 3; other++) {
                due("wait " + one + other, x.pairOf(one, other, 0, 3), 2);
                due("they go no further", x.talk(one, other, 0), 1);
            }
        }
    }

    private static void bothChoose() {
        Checks.sentence("3 both choose");
        MirroredTalks x = Checks.withPlans("0!a1b2;", "0!a1;", "0!;");
        for (int one = 0; one < 3; one++) {
            for (int other = 0; other < 3; other++) {
                due("choose " + one + other, x.pairOf(one, other, 0, 3), 3);
                due("they go no further", x.talk(one, other, 0), 1);
            }
        }
    }

    private static void chooserWithoutArrow() {
        Checks.sentence("4 the chooser has no arrow");
        MirroredTalks x = Checks.withPlans("0!;", "0?;", "0?a1b2c3d4e5f6;");
        for (int waiter = 1; waiter < 3; waiter++) {
            due("chooses first", x.pairOf(0, waiter, 0, 3), 4);
            due("chooses second", x.pairOf(waiter, 0, 0, 3), 4);
            due("no case", x.pairOf(waiter, 0, 0, 4), Checks.NOT_FOUND);
        }
        x.arrow(0, 0, 5, 0);
        due("one arrow is enough", x.pairOf(0, 2, 0, 3), 0);
        due("the waiter may lack all", x.pairOf(0, 1, 0, 3), 5);
    }

    private static void missingCase() {
        Checks.sentence("5 a case is missing: the chooser has an arrow by a word for which the waiter has none.");
        for (int word = 0; word < 6; word++) {
            MirroredTalks x = Checks.withPlans("0!a1b1c1d1e1f1;", "0?a1b1c1d1e1f1;");
            due("none", x.pairOf(0, 1, 0, 3), 0);
            x.erase(1, 0, word);
            due("chooses first", x.pairOf(0, 1, 0, 3), 5);
            due("chooses second", x.pairOf(1, 0, 0, 3), 5);
            due("the word", x.pairOf(0, 1, 0, 4), word);
            due("the word, chosen second", x.pairOf(1, 0, 0, 4), word);
            x.erase(0, 0, word);
            due("it need not be there", x.pairOf(0, 1, 0, 3), 0);
            x.arrow(1, 0, word, 1);
            due("a case more is none missing", x.pairOf(0, 1, 0, 3), 0);
            due("no word", x.pairOf(0, 1, 0, 4), Checks.NOT_FOUND);
        }
        MirroredTalks two = Checks.withPlans("0!b1c1e1f1;", "0?a1c1d1f1;");
        due("the first of two", two.pairOf(0, 1, 0, 4), 1);
        due("the first of two, chosen second", two.pairOf(1, 0, 0, 4), 1);
    }

    private static void firstReasonThatHolds() {
        Checks.sentence("A pair of states (one of each) is stuck for the first of these reasons that holds");
        // Nobody has a word that the other one has, so a later reason would hold, too, but for the kinds.
        int[][] reasons = {{0, 1, 1}, {1, 3, 5}, {1, 5, 2}};
        int[][] without = {{0, 1, 1}, {1, 3, 4}, {1, 4, 2}};
        for (int kind = 0; kind < 3; kind++) {
            for (int otherKind = 0; otherKind < 3; otherKind++) {
                MirroredTalks x = Checks.withPlans("0!a0b0;", "0!c0d0;");
                x.kind(0, 0, kind);
                x.kind(1, 0, otherKind);
                due("kinds " + kind + otherKind, x.pairOf(0, 1, 0, 3), reasons[kind][otherKind]);
                x.kind(2, 0, otherKind);
                x.copy(2, 1);
                x.kind(2, 0, kind);
                x.copy(2, 0);
                due("without arrows " + kind + otherKind, x.pairOf(0, 1, 0, 3), without[kind][otherKind]);
            }
        }
    }

    private static void onByTheOtherWords() {
        Checks.sentence("(By the other words they can go on from such a pair.)");
        MirroredTalks x = Checks.withPlans("0!a1b2c3;2?d4;", "0?b2c3;2!d4e4;");
        duePairs(x, 0, 1, "00 ", "22 b", "33 c", "44 bd");
        due("stuck", x.talk(0, 1, 1), 2);
        due("ends behind it", x.talk(0, 1, 2), 2);
        due("talks", x.talks(0, 1), 2);
        due("no word that only the chooser has", x.talk(0, 1, 5), 1 + 4 + 8 + 16);
        MirroredTalks round = Checks.withPlans("0!a1b0;", "0?b0;");
        due("without end", round.talks(0, 1), Checks.NOT_POSSIBLE);
    }

    private static void bothEnd() {
        Checks.sentence("If both end, the pair is an end; it is not stuck.");
        MirroredTalks x = new MirroredTalks();
        for (int round = 0; round < 2; round++) {
            due("ends", x.talk(0, 1, 2), 1);
            due("stuck", x.talk(0, 1, 1), 0);
            due("reason", x.pairOf(0, 1, 0, 3), 0);
            due("case", x.pairOf(0, 1, 0, 4), Checks.NOT_FOUND);
            due("none is stuck", x.pairOf(0, 1, -1, 3), Checks.NOT_FOUND);
            due("pairs", x.talk(0, 1, 0), 1);
            // The same with arrows, by words of both and of one alone.
            x.arrow(0, 0, 0, 1);
            x.arrow(1, 0, 0, 1);
            x.arrow(0, 0, 1, 1);
        }
    }

    private static void fewerWordsFirst() {
        Checks.sentence("those that are come to by fewer words first");
        MirroredTalks x = Checks.withPlans("0!a7f1;7!a6;6!a5;1!f2;", "0?a7f1;7?a6;6?a5;1?f2;");
        duePairs(x, 0, 1, "00 ", "77 a", "11 f", "66 aa", "22 ff", "55 aaa");
    }

    private static void letterByLetter() {
        Checks.sentence("of several the one to which the first row of words, letter by letter in the order of the"
                + " alphabet, leads");
        MirroredTalks x = Checks.withPlans("0!a7b6c5d4e3f2;", "0?a2b3c4d5e6f7;");
        duePairs(x, 0, 1, "00 ", "72 a", "63 b", "54 c", "45 d", "36 e", "27 f");
        // The first letter is looked at first: af, bc, fa.
        MirroredTalks y = Checks.withPlans("0!a3b2f1;1!a4;2!c5;3!f6;", "0?a3b2f1;1?a4;2?c5;3?f6;");
        duePairs(y, 0, 1, "00 ", "33 a", "22 b", "11 f", "66 af", "55 bc", "44 fa");
        // Then the second one: ab, ad, bc, bf; and the third one: abf, ada.
        MirroredTalks z = Checks.withPlans("0!a1b2;1!d3b4;2!f5c6;3!a6;4!f7;", "0?b1a2;2?b3d4;1?c5f6;4?a1;3?f2;");
        duePairs(z, 0, 1, "00 ", "12 a", "21 b", "43 ab", "34 ad", "65 bc", "56 bf", "72 abf", "61 ada");
    }

    private static void firstOfTheShortestRows() {
        Checks.sentence("(The row of a pair is the first one of its shortest rows.)");
        // (5, 5) by abc and by cd and by dc; (6, 6) behind it by f and e.
        MirroredTalks x = Checks.withPlans(
                "0!a1c2d3;1!b4;4!c5;2!d5;3!c5;5!f6e6;", "0?a1c2d3;1?b4;4?c5;2?d5;3?c5;5?f6e6;");
        duePairs(x, 0, 1, "00 ", "11 a", "22 c", "33 d", "44 ab", "55 cd", "66 cde");
        dueRow(x, 0, 1, 5, "cd");
        dueRow(x, 0, 1, 6, "cde");
        // Back in the first pair: its row stays empty.
        MirroredTalks y = Checks.withPlans("0!a0b1;1!a0;", "0?a0b1;1?a0;");
        dueRow(y, 0, 1, 0, "");
        dueRow(y, 0, 1, 1, "b");
    }

    private static void firstPairAndSoOn() {
        Checks.sentence("0 for the first one in the order of pairs, and so on");
        MirroredTalks x = Checks.withPlans(HIGH_DIGIT, LOW_DIGIT);
        for (int pair = 0; pair < 64; pair++) {
            due("one of " + pair, x.pairOf(0, 1, pair, 0), pair / 8);
            due("other one of " + pair, x.pairOf(0, 1, pair, 1), pair % 8);
            due("words to " + pair, x.pairOf(0, 1, pair, 2), pair);
            due("one of " + pair + ", mirrored", x.pairOf(1, 0, pair, 0), pair % 8);
        }
    }

    private static void firstStuckPair() {
        Checks.sentence("or -1 for the first one that is stuck");
        MirroredTalks x = Checks.withPlans(
                "0!a1;1!a2;2!a3;3!a4;4!a5;5!a6;6!a7;7!;", "0?a1;1?a2;2?a3;3?a4;4?a5;5?a6;6?a7;7?;");
        for (int stuck = 7; stuck >= 0; stuck--) {
            // A stuck pair more, ahead of all the others.
            x.arrow(0, stuck, 5, 0);
            due("one", x.pairOf(0, 1, -1, 0), stuck);
            due("other one", x.pairOf(0, 1, -1, 1), stuck);
            due("words", x.pairOf(0, 1, -1, 2), stuck);
            due("reason", x.pairOf(0, 1, -1, 3), 5);
            due("case", x.pairOf(0, 1, -1, 4), 5);
            due("its last word", x.pairOf(0, 1, -1, 9 + Math.max(stuck, 1)), stuck == 0 ? Checks.NOT_FOUND : 0);
            due("no word more", x.pairOf(0, 1, -1, 10 + stuck), Checks.NOT_FOUND);
            due("stuck pairs", x.talk(0, 1, 1), 8 - stuck);
        }
    }

    private static void numbersOfAPair() {
        Checks.sentence("0: the state of the one; 1: the state of the other one; 2: how many words lead to it; 3: the"
                + " reason for which it is stuck, 0 if it is not");
        MirroredTalks x = Checks.withPlans("0!a1b2c3d4e5f6;1?;2!;3!;4!a0;5!a0;", "0?a7b6c5d4e3f2;7?;6!;5?;4?;3?a0;");
        String[] pairs = {"00", "17", "26", "35", "44", "53", "62"};
        int[] reasons = {0, 2, 3, 4, 5, 0, 0};
        for (int pair = 0; pair < pairs.length; pair++) {
            due("the one", x.pairOf(0, 1, pair, 0), pairs[pair].charAt(0) - '0');
            due("the other one", x.pairOf(0, 1, pair, 1), pairs[pair].charAt(1) - '0');
            due("words", x.pairOf(0, 1, pair, 2), pair == 0 ? 0 : 1);
            due("reason", x.pairOf(0, 1, pair, 3), reasons[pair]);
            due("the other way: the one", x.pairOf(1, 0, pair, 0), pairs[pair].charAt(1) - '0');
            due("the other way: the other one", x.pairOf(1, 0, pair, 1), pairs[pair].charAt(0) - '0');
            due("the other way: reason", x.pairOf(1, 0, pair, 3), reasons[pair]);
        }
        x.kind(0, 6, 1);
        due("one ends", x.pairOf(0, 1, 6, 3), 1);
    }

    private static void firstWordMissing() {
        Checks.sentence("4: the first word whose case is missing");
        for (int words = 1; words < 64; words++) {
            MirroredTalks x = Checks.withPlans("0!a1b1c1d1e1f1;", "0?a1b1c1d1e1f1;");
            for (int word = 0; word < 6; word++) {
                if ((words >> word & 1) == 1) {
                    x.erase(1, 0, word);
                }
            }
            due("missing " + words, x.pairOf(0, 1, 0, 4), Integer.numberOfTrailingZeros(words));
            due("missing " + words + ", chosen second", x.pairOf(1, 0, -1, 4), Integer.numberOfTrailingZeros(words));
        }
    }

    private static void noSuchPair() {
        Checks.sentence("NOT_FOUND if there is no such pair");
        MirroredTalks x = Checks.withPlans("0!a1;", "0?a1;");
        for (int what : new int[] {0, 1, 2, 3, 4, 10, 11, 73}) {
            due("none is stuck, " + what, x.pairOf(0, 1, -1, what), Checks.NOT_FOUND);
            for (int pair : new int[] {2, 3, 63, 64, 65, 1000000, Integer.MAX_VALUE}) {
                due("pair " + pair + ", " + what, x.pairOf(0, 1, pair, what), Checks.NOT_FOUND);
            }
        }
        due("the last one", x.pairOf(0, 1, 1, 0), 1);
        MirroredTalks all = Checks.withPlans(HIGH_DIGIT, LOW_DIGIT);
        due("the last one of all", all.pairOf(0, 1, 63, 0), 7);
        due("behind all", all.pairOf(0, 1, 64, 0), Checks.NOT_FOUND);
        // Nothing stays of the longer talk that was asked for before.
        due("of another talk", all.pairOf(0, 2, 1, 0), Checks.NOT_FOUND);
    }

    private static void noCaseMissing() {
        Checks.sentence("for 4 if no case is missing");
        MirroredTalks x = Checks.withPlans("0!a1b1;", "0!b1c1;");
        for (int kind = 0; kind < 3; kind++) {
            for (int otherKind = 0; otherKind < 3; otherKind++) {
                x.kind(0, 0, kind);
                x.kind(1, 0, otherKind);
                boolean missing = kind + otherKind == 3 && kind != 0 && otherKind != 0;
                due("kinds " + kind + otherKind, x.pairOf(0, 1, 0, 4),
                        missing ? kind == 1 ? 0 : 2 : Checks.NOT_FOUND);
            }
        }
        x.kind(0, 0, 1);
        x.kind(1, 0, 2);
        x.arrow(1, 0, 0, 1);
        due("one case more than words", x.pairOf(0, 1, 0, 4), Checks.NOT_FOUND);
        x.kind(0, 0, 2);
        x.kind(1, 0, 1);
        due("now it is missing", x.pairOf(0, 1, 0, 4), 2);
    }

    private static void notSoManyWords() {
        Checks.sentence("or the row has not so many words");
        MirroredTalks x = Checks.withPlans(HIGH_DIGIT, LOW_DIGIT);
        for (int pair = 0; pair < 64; pair++) {
            due("first word more, " + pair, x.pairOf(0, 1, pair, 10 + pair), Checks.NOT_FOUND);
            due("last word more, " + pair, x.pairOf(0, 1, pair, 73), Checks.NOT_FOUND);
            if (pair > 0) {
                due("last word, " + pair, x.pairOf(0, 1, pair, 9 + pair), ALL_PAIRS_ROW.charAt(pair - 1) - 'a');
            }
        }
    }

    private static void lastWordOfTheLongestRow() {
        Checks.sentence("10 plus k: word k of its row, from 0");
        MirroredTalks x = Checks.withPlans(HIGH_DIGIT, LOW_DIGIT);
        dueRow(x, 0, 1, 63, ALL_PAIRS_ROW);
        dueRow(x, 0, 1, 62, ALL_PAIRS_ROW.substring(0, 62));
        dueRow(x, 1, 0, 8, "aaaaaaab");
        MirroredTalks words = Checks.withPlans("0!f1;1!e2;2!d3;3!c4;4!b5;5!a6;", "0?f1;1?e2;2?d3;3?c4;4?b5;5?a6;");
        dueRow(words, 0, 1, 6, "fedcba");
    }

    private static void howManyPairs() {
        Checks.sentence("0: how many pairs they come to");
        MirroredTalks x = Checks.withPlans(HIGH_DIGIT, LOW_DIGIT);
        due("all", x.talk(0, 1, 0), 64);
        due("the other way", x.talk(1, 0, 0), 64);
        due("one", x.talk(2, 2, 0), 1);
        x.erase(0, 6, 1);
        due("but for the last eight", x.talk(0, 1, 0), 56);
        x.erase(1, 7, 1);
        due("the first eight", x.talk(0, 1, 0), 8);
        x.erase(1, 0, 0);
        due("the first one", x.talk(0, 1, 0), 1);
    }

    private static void howManyStuck() {
        Checks.sentence("1: how many of these are stuck");
        MirroredTalks x = Checks.withPlans(HIGH_DIGIT, LOW_DIGIT);
        due("each by a case, but for seven", x.talk(0, 1, 1), 57);
        x.mirror(0);
        x.mirror(1);
        due("the last one", x.talk(0, 1, 1), 1);
        due("it is the first one that is stuck", x.pairOf(0, 1, -1, 2), 63);
        x.arrow(1, 7, 0, 7);
        x.erase(1, 7, 1);
        due("none", x.talk(0, 1, 1), 0);
        // Pairs that are not come to do not count.
        MirroredTalks y = Checks.withPlans("0!a1;2!;3?;", "0?a1;2!;3?;");
        due("not come to", y.talk(0, 1, 1), 0);
    }

    private static void howManyEnds() {
        Checks.sentence("2: how many are ends");
        MirroredTalks x = Checks.withPlans("0!;", "0?;");
        due("none", x.talk(0, 1, 2), 0);
        for (int word = 0; word < 6; word++) {
            x.arrow(0, 0, word, word + 1);
            x.arrow(1, 0, word, 7);
            due("by words up to " + word, x.talk(0, 1, 2), word + 1);
        }
        x.arrow(0, 0, 5, 1);
        due("two ways to one end", x.talk(0, 1, 2), 5);
        due("at once", x.talk(2, 2, 2), 1);
        due("one of both", x.talk(0, 2, 2), 0);
    }

    private static void onWithoutEnd() {
        Checks.sentence("3: 1 if they can go on without end, otherwise 0");
        for (int back = 0; back < 8; back++) {
            MirroredTalks x = Checks.withPlans(
                    "0!a1;1!a2;2!a3;3!a4;4!a5;5!a6;6!a7;7!;", "0?a1;1?a2;2?a3;3?a4;4?a5;5?a6;6?a7;7?;");
            due("a chain", x.talk(0, 1, 3), 0);
            x.arrow(0, 7, 3, back);
            due("the one alone", x.talk(0, 1, 3), 0);
            x.arrow(1, 7, 3, back);
            due("both back to " + back, x.talk(0, 1, 3), 1);
            due("the other way", x.talk(1, 0, 3), 1);
            x.kind(0, back, 0);
            due("by an end", x.talk(0, 1, 3), 0);
        }
        MirroredTalks all = Checks.withPlans(HIGH_DIGIT, LOW_DIGIT);
        due("64 pairs, none twice", all.talk(0, 1, 3), 0);
        all.arrow(0, 7, 1, 0);
        due("from the last one to the first one", all.talk(0, 1, 3), 1);
    }

    private static void fewestWordsToAnEnd() {
        Checks.sentence("4: the fewest words by which they come to an end");
        MirroredTalks x = Checks.withPlans("0!a1b2;1!a3;3!a7;2!b7;", "0?a1b2;1?a3;3?a7;2?b7;");
        due("none", x.talk(2, 2, 4), 0);
        due("two of two ways", x.talk(0, 1, 4), 2);
        x.erase(0, 2, 1);
        due("three", x.talk(0, 1, 4), 3);
        // 49 pairs one behind the other, then an end.
        MirroredTalks far = Checks.withPlans(
                "0?a0b1;1?a1b2;2?a2b3;3?a3b4;4?a4b5;5?a5b6;6?a6c7;", "0!a1;1!a2;2!a3;3!a4;4!a5;5!a6;6!b0c7;");
        due("far", far.talk(0, 1, 4), 49);
        due("pairs", far.talk(0, 1, 0), 50);
        due("one row", far.talks(0, 1), 1);
        dueRow(far, 0, 1, 49, "aaaaaab".repeat(6) + "aaaaaac");
    }

    private static void noEnd() {
        Checks.sentence("NOT_FOUND for 4 if they come to no end.");
        MirroredTalks x = Checks.withPlans("0!a0b1;1!a0;", "0?a0b1;1?a0;", "0?a1;");
        due("without end", x.talk(0, 1, 4), Checks.NOT_FOUND);
        due("only one ends", x.talk(0, 2, 4), Checks.NOT_FOUND);
        due("stuck", x.talk(0, 0, 4), Checks.NOT_FOUND);
        for (int what : new int[] {0, 1, 2, 3, 5, 6}) {
            due("the others are told, " + what, x.talk(0, 0, what) >= 0 ? 1 : 0, 1);
        }
        // Nothing stays of a talk that was asked for before.
        MirroredTalks y = Checks.withPlans("0!a1;", "0?a1;", "0?;");
        due("an end", y.talk(0, 1, 4), 1);
        due("none", y.talk(2, 2, 4), Checks.NOT_FOUND);
        due("no ends", y.talk(2, 2, 2), 0);
        due("one that is stuck", y.talk(2, 2, 1), 1);
        due("one state", y.talk(2, 2, 5), 1);
    }

    private static void statesComeTo() {
        Checks.sentence("5: the states of the one that are come to, as a set; 6: those of the other one");
        MirroredTalks x = Checks.withPlans("0!a7b5;5?f2;", "0?a1b6;6!f3;");
        due("of the one", x.talk(0, 1, 5), 1 + 128 + 32 + 4);
        due("of the other one", x.talk(0, 1, 6), 1 + 2 + 64 + 8);
        due("the other way: of the one", x.talk(1, 0, 5), 1 + 2 + 64 + 8);
        due("the other way: of the other one", x.talk(1, 0, 6), 1 + 128 + 32 + 4);
        MirroredTalks all = Checks.withPlans(HIGH_DIGIT, LOW_DIGIT);
        due("all of the one", all.talk(0, 1, 5), 255);
        due("all of the other one", all.talk(0, 1, 6), 255);
        due("the first ones", all.talk(2, 2, 5) + all.talk(2, 2, 6), 2);
    }

    private static void rowsToEnds() {
        Checks.sentence("Counts the rows of words by which two plans come to an end.");
        MirroredTalks x = Checks.withPlans("0!;", "0?;");
        due("none", x.talks(0, 1), 0);
        due("the empty one", x.talks(2, 2), 1);
        for (int word = 0; word < 6; word++) {
            x.arrow(0, 0, word, 1);
            x.arrow(1, 0, word, 1);
            due("by words up to " + word, x.talks(0, 1), word + 1);
        }
        // Six words in each of seven places.
        long rows = 6;
        for (int state = 1; state < 7; state++) {
            for (int word = 0; word < 6; word++) {
                x.arrow(0, state, word, state + 1);
                x.arrow(1, state, word, state + 1);
            }
            x.kind(0, state, 1 + state % 2);
            x.kind(1, state, 2 - state % 2);
            rows *= 6;
            due("in " + (state + 1) + " places", x.talks(0, 1), rows);
        }
        due("the other way", x.talks(1, 0), 279936);
        x.kind(0, 7, 1);
        due("no end, no rows", x.talks(0, 1), 0);
        // Rows that come to an end by a short and by a long way count both.
        MirroredTalks y = Checks.withPlans("0!a1b2c7;1!d2e7;2!f7;", "0?a1b2c7;1?d2e7;2?f7;");
        due("c, ae, bf, adf", y.talks(0, 1), 4);
    }

    private static void endlessToNoEnd() {
        Checks.sentence("NOT_POSSIBLE if they can go on without end (also if that leads to no end)");
        MirroredTalks x = Checks.withPlans("0!a7b1;1!a1;", "0?a7b1;1?a1;");
        due("a ring beside the end", x.talks(0, 1), Checks.NOT_POSSIBLE);
        x.arrow(0, 1, 2, 7);
        x.arrow(1, 1, 2, 7);
        due("a ring that leads to the end", x.talks(0, 1), Checks.NOT_POSSIBLE);
        x.erase(1, 1, 0);
        due("the ring broken", x.talks(0, 1), 2);
        x.erase(1, 0, 1);
        due("one row", x.talks(0, 1), 1);
        MirroredTalks none = Checks.withPlans("0!a0;", "0?a0;");
        due("no end at all", none.talks(0, 1), Checks.NOT_POSSIBLE);
        MirroredTalks apart = Checks.withPlans("0!a7;1!a1;", "0?a7;1?a1;");
        due("a ring that is not come to", apart.talks(0, 1), 1);
    }

    /** Five words in 15 places, two in 15 places, in 31 pairs: 10 to the 15th rows. */
    private static MirroredTalks atTheLimit() {
        return Checks.withPlans(
                "0!c1;1!a2c2d2e2f2;2!a3c3d3e3f3;3!a4c4d4e4f4;4!a5c5d5e5f5;5!a6c6d6e6f6;6!b1a7;",
                "0?c1;1?a1c1d1e1f1b2;2?a2c2d2e2f2b3;3?a3c3d3e3f3b4;4?c4d4b5;5?c5d5b6;6?c6d6a7;");
    }

    private static void moreThanTheLimit() {
        Checks.sentence("LIMIT_REACHED if there are more than 1000000000000000.");
        MirroredTalks x = atTheLimit();
        due("as many", x.talks(0, 1), 1000000000000000L);
        x.arrow(0, 0, 0, 7);
        x.arrow(1, 0, 0, 7);
        due("one more", x.talks(0, 1), Checks.LIMIT);
        due("one more, the other way", x.talks(1, 0), Checks.LIMIT);
        MirroredTalks less = atTheLimit();
        less.erase(0, 5, 5);
        // The word f is missing in each of the three places of five words in which the one is in its state 5.
        due("less: 5 to the 12th, 4 to the 3rd, 2 to the 15th", less.talks(0, 1), 512000000000000L);
        // So many that they would be 0 in a long.
        MirroredTalks far = Checks.withPlans(
                "0!c1d1e1f1;1!c2d2e2f2;2!c3d3e3f3;3!c4d4e4f4;4!c5d5e5f5;5!c6d6e6f6;6!b0a7;",
                "0?c0d0e0f0b1;1?c1d1e1f1b2;2?c2d2e2f2b3;3?c3d3e3f3b4;4?c4d4e4f4b5;5?c5d5e5f5a7;");
        due("4 to the 36th", far.talks(0, 1), Checks.LIMIT);
        due("they do end", far.talk(0, 1, 3), 0);
        far.arrow(0, 6, 0, 6);
        due("but for those to no end", far.talks(0, 1), 0);
        far.arrow(0, 6, 0, 7);
        far.arrow(0, 6, 1, 6);
        far.arrow(1, 1, 1, 1);
        due("in a ring it is not possible", far.talks(0, 1), Checks.NOT_POSSIBLE);
    }
}
