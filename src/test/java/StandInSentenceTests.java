/** The sentences on standing in, and promises 12 and 13: each boundary case that they name. */
public final class StandInSentenceTests {
    /** All 64 pairs one behind the other: a counts one plan on, b the other one when that one begins again. */
    private static final String HIGH_DIGIT = "0?a0b1;1?a1b2;2?a2b3;3?a3b4;4?a4b5;5?a5b6;6?a6b7;7?a7;";
    private static final String LOW_DIGIT = "0?a1;1?a2;2?a3;3?a4;4?a5;5?a6;6?a7;7?b0;";
    private static final String ALL_PAIRS_ROW = "aaaaaaab".repeat(7) + "aaaaaaa";

    private StandInSentenceTests() {
    }

    public static void main(String[] args) {
        anotherOneOrTheSame();
        bothEnd();
        kindsOfBoth();
        chooserHasAnArrow();
        chooserByEachOfItsWords();
        chooserBehindItsWords();
        waiterByEachWordOfTheOther();
        waiterBehindTheseWords();
        backToItself();
        unlessSomethingElse();
        byTheirStates0();
        oneOrZero();
        fewestWords();
        firstRowOfSeveral();
        longestRow();
        bothStates();
        kindsUnlike();
        choosesWithoutArrow();
        wordWanted();
        firstThatHolds();
        firstSuchWord();
        noSuchWord();
        notFoundIfItCan();
        wordsOfTheRow();
        notSoManyWords();
        countedToo();
        Checks.end();
    }

    private static void due(String what, long got, long want) {
        Checks.due(what, got, want);
    }

    private static void dueCan(MirroredTalks x, int one, int other) {
        due("stands in " + one + other, x.standsIn(one, other), 1);
        due("counted " + one + other, x.count(10 + 3 * one + other), 1);
        due("reason " + one + other, x.against(one, other, 3), Checks.NOT_FOUND);
    }

    /** The pair is told as the states and the row that leads there, the reason as its number and word. */
    private static void dueCannot(MirroredTalks x, int one, int other, String pair, String reason) {
        String row = pair.substring(3);
        due("stands in " + one + other, x.standsIn(one, other), 0);
        due("counted " + one + other, x.count(10 + 3 * one + other), 0);
        due("words of " + pair, x.against(one, other, 0), row.length());
        due("one of " + pair, x.against(one, other, 1), pair.charAt(0) - '0');
        due("other one of " + pair, x.against(one, other, 2), pair.charAt(1) - '0');
        due("reason of " + pair, x.against(one, other, 3), reason.charAt(0) - '0');
        due("word of " + pair, x.against(one, other, 4),
                reason.length() > 1 ? reason.charAt(1) - 'a' : Checks.NOT_FOUND);
        for (int k = 0; k <= row.length(); k++) {
            due("word " + k + " of " + pair, x.against(one, other, 10 + k),
                    k < row.length() ? row.charAt(k) - 'a' : Checks.NOT_FOUND);
        }
    }

    private static void anotherOneOrTheSame() {
        Checks.sentence("A state s of one plan can stand in for a state t of another one (or the same)");
        for (int plan = 0; plan < 3; plan++) {
            MirroredTalks x = new MirroredTalks();
            dueCan(x, plan, plan);
            x.kind(plan, 0, 2);
            dueCan(x, plan, plan);
            x.arrow(plan, 0, 3, 4);
            x.kind(plan, 4, 1);
            x.arrow(plan, 4, 3, 0);
            dueCan(x, plan, plan);
            x.erase(plan, 4, 3);
            dueCannot(x, plan, plan, "44 d", "2");
        }
    }

    private static void bothEnd() {
        Checks.sentence("if both end");
        MirroredTalks x = new MirroredTalks();
        dueCan(x, 0, 1);
        x.arrow(0, 0, 0, 1);
        dueCan(x, 0, 1);
        dueCan(x, 1, 0);
        x.kind(0, 1, 2);
        x.arrow(1, 0, 0, 1);
        dueCan(x, 0, 1);
    }

    private static void kindsOfBoth() {
        Checks.sentence("or if both choose, s has an arrow at least, t has one by each word by which s has one");
        for (int kind = 0; kind < 3; kind++) {
            for (int otherKind = 0; otherKind < 3; otherKind++) {
                MirroredTalks x = Checks.withPlans("0!b1;", "0!b1;");
                x.kind(0, 0, kind);
                x.kind(1, 0, otherKind);
                if (kind == otherKind) {
                    dueCan(x, 0, 1);
                } else {
                    dueCannot(x, 0, 1, "00 ", "1");
                }
            }
        }
    }

    private static void chooserHasAnArrow() {
        Checks.sentence("s has an arrow at least");
        MirroredTalks x = Checks.withPlans("0!;", "0!a1;", "0!;");
        dueCannot(x, 0, 1, "00 ", "2");
        dueCannot(x, 0, 2, "00 ", "2");
        dueCannot(x, 0, 0, "00 ", "2");
        x.arrow(0, 0, 0, 1);
        dueCan(x, 0, 1);
        dueCan(x, 0, 0);
        dueCannot(x, 0, 2, "00 ", "3a");
    }

    /** Two plans whose states 0 are of this kind, with arrows by these words to states that end. */
    private static MirroredTalks withWords(int kind, int words, int otherWords) {
        MirroredTalks x = new MirroredTalks();
        x.kind(0, 0, kind);
        x.kind(1, 0, kind);
        for (int word = 0; word < 6; word++) {
            if ((words >> word & 1) == 1) {
                x.arrow(0, 0, word, word + 1);
            }
            if ((otherWords >> word & 1) == 1) {
                x.arrow(1, 0, word, 7 - word);
            }
        }
        return x;
    }

    private static void chooserByEachOfItsWords() {
        Checks.sentence("t has one by each word by which s has one");
        for (int words = 0; words < 64; words++) {
            for (int otherWords : new int[] {0, 1, 32, 63, 42, 21, 12, words}) {
                MirroredTalks x = withWords(1, words, otherWords);
                int wanted = words & ~otherWords;
                if (words == 0) {
                    dueCannot(x, 0, 1, "00 ", "2");
                } else if (wanted == 0) {
                    dueCan(x, 0, 1);
                } else {
                    dueCannot(x, 0, 1, "00 ", "3" + (char) ('a' + Integer.numberOfTrailingZeros(wanted)));
                }
            }
        }
    }

    private static void chooserBehindItsWords() {
        Checks.sentence("behind each of these words the state to which s leads can stand in for the one to which t"
                + " leads");
        MirroredTalks x = Checks.withPlans("0!b1e2;1?;2?;", "0!a3b1c3e2f3;1?;2?;3!;");
        dueCan(x, 0, 1);
        for (int word : new int[] {1, 4}) {
            int state = word == 1 ? 1 : 2;
            x.arrow(1, state, 5, 0);
            dueCannot(x, 0, 1, "" + state + state + " " + (char) ('a' + word), "3f");
            x.undo();
        }
        dueCan(x, 0, 1);
    }

    private static void waiterByEachWordOfTheOther() {
        Checks.sentence("or if both wait, s has an arrow by each word by which t has one");
        for (int words = 0; words < 64; words++) {
            for (int otherWords : new int[] {0, 1, 32, 63, 42, 21, 12, words}) {
                MirroredTalks x = withWords(2, words, otherWords);
                int wanted = otherWords & ~words;
                if (wanted == 0) {
                    dueCan(x, 0, 1);
                } else {
                    dueCannot(x, 0, 1, "00 ", "3" + (char) ('a' + Integer.numberOfTrailingZeros(wanted)));
                }
            }
        }
    }

    private static void waiterBehindTheseWords() {
        Checks.sentence("and behind each of these words likewise");
        MirroredTalks x = Checks.withPlans("0?a3b1c3e2f3;1!a0;2!a0;3!;", "0?b1e2;1!a0;2!a0;");
        dueCan(x, 0, 1);
        for (int word : new int[] {1, 4}) {
            int state = word == 1 ? 1 : 2;
            x.arrow(0, state, 5, 0);
            dueCannot(x, 0, 1, "" + state + state + " " + (char) ('a' + word), "3f");
            x.undo();
        }
        dueCan(x, 0, 1);
    }

    private static void backToItself() {
        Checks.sentence("Where this comes back to itself, it holds");
        MirroredTalks x = Checks.withPlans("0!a0;", "0!a1;1!a0;", "0!a1;1!a2;2!a3;3!a4;4!a5;5!a6;6!a0;");
        for (int one = 0; one < 3; one++) {
            for (int other = 0; other < 3; other++) {
                dueCan(x, one, other);
            }
        }
        MirroredTalks turns = Checks.withPlans("0!a1;1?b0;", "0!a1;1?b2;2!a3;3?b0;");
        dueCan(turns, 0, 1);
        dueCan(turns, 1, 0);
    }

    private static void unlessSomethingElse() {
        Checks.sentence("unless something else is against it");
        MirroredTalks x = Checks.withPlans("0!a0;", "0!a1;1!a2;2!a0;");
        x.kind(1, 2, 2);
        dueCannot(x, 0, 1, "02 aa", "1");
        dueCannot(x, 1, 0, "20 aa", "1");
        x.kind(1, 2, 1);
        x.erase(1, 2, 0);
        dueCannot(x, 0, 1, "02 aa", "3a");
        dueCannot(x, 1, 0, "20 aa", "2");
        x.arrow(1, 2, 0, 0);
        x.arrow(0, 0, 1, 0);
        dueCannot(x, 0, 1, "00 ", "3b");
        dueCan(x, 1, 0);
    }

    private static void byTheirStates0() {
        Checks.sentence("A plan can stand in for another one if its state 0 can for the other one's.");
        MirroredTalks x = Checks.withPlans("0!a7;1!;2?;", "0!a7;1?;2!;", "0?;7!a7;");
        dueCan(x, 0, 1);
        dueCan(x, 1, 0);
        dueCannot(x, 0, 2, "00 ", "1");
        x.kind(0, 7, 2);
        dueCannot(x, 0, 1, "77 a", "1");
        due("what is not come to does not matter", x.standsIn(2, 2), 1);
    }

    private static void oneOrZero() {
        Checks.sentence("Returns 1 if it can, otherwise 0");
        MirroredTalks x = Checks.withPlans("0!a1;", "0!a1b1;", "0?;");
        int[][] can = {{1, 1, 0}, {0, 1, 0}, {0, 0, 1}};
        for (int one = 0; one < 3; one++) {
            for (int other = 0; other < 3; other++) {
                due("stands in " + one + other, x.standsIn(one, other), can[one][other]);
            }
        }
    }

    private static void fewestWords() {
        Checks.sentence("by the fewest words that lead both to states that are against it by themselves");
        // aaa, bb and cc lead to what is against it: the longer row comes first in the alphabet.
        MirroredTalks x = Checks.withPlans(
                "0!a1b2c3;1!a4;4!a5;2!b6;3!c7;5!;6!;7!;", "0!a1b2c3;1!a4;4!a5;2!b6;3!c7;5!;6!;7!;");
        dueCannot(x, 0, 1, "66 bb", "2");
        x.kind(0, 3, 2);
        dueCannot(x, 0, 1, "33 c", "1");
        x.kind(0, 3, 1);
        x.arrow(0, 6, 0, 0);
        x.arrow(1, 6, 0, 0);
        dueCannot(x, 0, 1, "77 cc", "2");
        x.arrow(0, 7, 0, 0);
        x.arrow(1, 7, 0, 0);
        dueCannot(x, 0, 1, "55 aaa", "2");
        x.kind(0, 0, 2);
        dueCannot(x, 0, 1, "00 ", "1");
    }

    private static void firstRowOfSeveral() {
        Checks.sentence("of several the first row of words, in order");
        MirroredTalks x = Checks.withPlans("0?a7b6c5d4e3f2;", "0?a2b3c4d5e6f7;2!;3!;4!;5!;6!;7!;");
        String[] pairs = {"72 a", "63 b", "54 c", "45 d", "36 e", "27 f"};
        for (String pair : pairs) {
            dueCannot(x, 0, 1, pair, "1");
            x.kind(1, pair.charAt(1) - '0', 0);
        }
        dueCan(x, 0, 1);
        // The first letter is looked at first: af ahead of ba.
        MirroredTalks y = Checks.withPlans("0?a4b1;4?f3;1?a2;", "0?a4b1;4?f3;1?a2;2!;3!;");
        dueCannot(y, 0, 1, "33 af", "1");
        // Of two rows to one pair the first one, too.
        MirroredTalks z = Checks.withPlans("0?a4b1;4?f3;1?a3;", "0?a4b1;4?f3;1?a3;3!;");
        dueCannot(z, 0, 1, "33 af", "1");
    }

    private static void longestRow() {
        Checks.sentence("0: how many words");
        MirroredTalks x = Checks.withPlans(HIGH_DIGIT, LOW_DIGIT);
        dueCannot(x, 0, 1, "77 " + ALL_PAIRS_ROW, "3b");
        due("none behind its last word", x.against(0, 1, 73), Checks.NOT_FOUND);
        // As choosers the other plan has more words.
        x.mirror(0);
        x.mirror(1);
        dueCannot(x, 1, 0, "77 " + ALL_PAIRS_ROW, "3b");
        x.arrow(0, 7, 1, 0);
        dueCan(x, 1, 0);
        dueCannot(x, 0, 1, "00 ", "3b");
        due("none", x.against(0, 2, 0), 0);
    }

    private static void bothStates() {
        Checks.sentence("1: the state of the one; 2: that of the other one");
        for (int state = 1; state < 8; state++) {
            MirroredTalks x = Checks.withPlans("0!f1;", "0!f1;");
            x.arrow(0, 0, 5, state);
            x.arrow(1, 0, 5, 8 - state);
            x.kind(1, 8 - state, 2);
            dueCannot(x, 0, 1, "" + state + (8 - state) + " f", "1");
            dueCannot(x, 1, 0, "" + (8 - state) + state + " f", "1");
        }
    }

    private static void kindsUnlike() {
        Checks.sentence("3: 1 if their kinds are unlike");
        MirroredTalks x = Checks.withPlans("0.;", "0!a1;", "0?a1;");
        for (int one = 0; one < 3; one++) {
            for (int other = 0; other < 3; other++) {
                if (one == other) {
                    dueCan(x, one, other);
                } else {
                    dueCannot(x, one, other, "00 ", "1");
                }
            }
        }
    }

    private static void choosesWithoutArrow() {
        Checks.sentence("2 if the one chooses and has no arrow");
        MirroredTalks x = Checks.withPlans("0!;", "0!a1b2c3d4e5f6;", "0?;");
        dueCannot(x, 0, 1, "00 ", "2");
        dueCannot(x, 0, 0, "00 ", "2");
        // The other one's lack of arrows is a lack of words.
        dueCannot(x, 1, 0, "00 ", "3a");
        // One that waits may have none.
        dueCan(x, 2, 2);
    }

    private static void wordWanted() {
        Checks.sentence("3 if there is a word by which an arrow is wanted");
        for (int word = 0; word < 6; word++) {
            for (int kind = 1; kind < 3; kind++) {
                MirroredTalks x = withWords(kind, 63, 63 & ~(1 << word));
                String wanted = "3" + (char) ('a' + word);
                if (kind == 1) {
                    dueCannot(x, 0, 1, "00 ", wanted);
                    dueCan(x, 1, 0);
                } else {
                    dueCan(x, 0, 1);
                    dueCannot(x, 1, 0, "00 ", wanted);
                }
            }
        }
    }

    private static void firstThatHolds() {
        Checks.sentence("(the first of these that holds)");
        // A chooser without an arrow, and one that waits by a word that is wanted.
        MirroredTalks x = Checks.withPlans("0!;", "0?a1;", "0!a1;");
        dueCannot(x, 0, 1, "00 ", "1");
        dueCannot(x, 1, 0, "00 ", "1");
        dueCannot(x, 2, 1, "00 ", "1");
        dueCannot(x, 1, 2, "00 ", "1");
        dueCannot(x, 0, 2, "00 ", "2");
        dueCannot(x, 2, 0, "00 ", "3a");
    }

    private static void firstSuchWord() {
        Checks.sentence("4: the first such word");
        for (int word = 0; word < 6; word++) {
            MirroredTalks x = withWords(1, 63, (1 << word) - 1);
            dueCannot(x, 0, 1, "00 ", "3" + (char) ('a' + word));
            MirroredTalks y = withWords(2, (1 << word) - 1, 63);
            dueCannot(y, 0, 1, "00 ", "3" + (char) ('a' + word));
        }
    }

    private static void noSuchWord() {
        Checks.sentence("for 4 if there is no such word");
        MirroredTalks x = Checks.withPlans("0!a1b2;", "0?c1d2;", "0!;");
        due("kinds unlike", x.against(0, 1, 4), Checks.NOT_FOUND);
        due("kinds unlike, the other way", x.against(1, 0, 4), Checks.NOT_FOUND);
        due("without an arrow", x.against(2, 0, 4), Checks.NOT_FOUND);
        due("but there is something against it", x.against(2, 0, 3), 2);
        due("there is one", x.against(0, 2, 4), 0);
    }

    private static void notFoundIfItCan() {
        Checks.sentence("NOT_FOUND if it can stand in");
        MirroredTalks x = Checks.withPlans("0!a1;1?b0;", "0!a1;1?b0;");
        for (int what = 0; what < 74; what++) {
            if (what < 5 || what > 9) {
                due("loops, " + what, x.against(0, 1, what), Checks.NOT_FOUND);
                due("itself, " + what, x.against(0, 0, what), Checks.NOT_FOUND);
                due("ends, " + what, x.against(2, 2, what), Checks.NOT_FOUND);
            }
        }
    }

    private static void wordsOfTheRow() {
        Checks.sentence("10 plus k: word k of the row, from 0");
        MirroredTalks x = Checks.withPlans("0!f1;1!e2;2!d3;3!c4;4!b5;5!a6;", "0!f1;1!e2;2!d3;3!c4;4!b5;5!a6;6?;");
        dueCannot(x, 0, 1, "66 fedcba", "1");
        MirroredTalks far = Checks.withPlans(HIGH_DIGIT, LOW_DIGIT);
        for (int k = 0; k < 64; k++) {
            due("word " + k, far.against(0, 1, 10 + k), k < 63 ? ALL_PAIRS_ROW.charAt(k) - 'a' : Checks.NOT_FOUND);
        }
    }

    private static void notSoManyWords() {
        Checks.sentence("or the row has not so many words");
        MirroredTalks x = Checks.withPlans("0?a1;1?b2;2?c3;3?d4;4?e5;5?f6;", "0?a1;1?b2;2?c3;3?d4;4?e5;5?f6;");
        for (int state = 6; state >= 0; state--) {
            x.kind(1, state, 1);
            dueCannot(x, 0, 1, "" + state + state + " " + "abcdef".substring(0, state), "1");
            due("last number", x.against(0, 1, 73), Checks.NOT_FOUND);
        }
    }

    private static void countedToo() {
        Checks.sentence("10 plus 3 times a plan plus another one: 1 if the one can stand in for the other,"
                + " otherwise 0");
        MirroredTalks x = Checks.withPlans("0!a1;", "0!a1b1;", "0!a1b1c1;");
        for (int what = 10; what < 19; what++) {
            int one = (what - 10) / 3;
            int other = (what - 10) % 3;
            due("count " + what, x.count(what), one <= other ? 1 : 0);
            due("stands in", x.standsIn(one, other), one <= other ? 1 : 0);
        }
    }
}
