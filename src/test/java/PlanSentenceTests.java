/** The sentences on plans and on what is alike, and promises 1 to 8: each boundary case that they name. */
public final class PlanSentenceTests {
    private static final String ALL_END = "0.;1.;2.;3.;4.;5.;6.;7.;";

    private PlanSentenceTests() {
    }

    public static void main(String[] args) {
        newObject();
        allPlansAndStates();
        kindsByNumber();
        wordsByNumber();
        setsAsBits();
        arrowToTheSameState();
        oneArrowForEachWord();
        arrowsOfStatesThatEnd();
        kindThatItWas();
        inPlaceOfOne();
        arrowsThatTheStateHas();
        stateToWhichItLed();
        noArrowToErase();
        statesOfTheCopy();
        bothPlansTheSame();
        mirroredKinds();
        arrowsStayWhenMirrored();
        otherKindsThen();
        alikeBySameKind();
        alikeBySameWords();
        alikeByWhatTheyLeadTo();
        alikeBackToItself();
        alikeUnlessSomethingElse();
        kindAndWords();
        lowestStateAlike();
        statesOneCanComeTo();
        stateItself();
        arrowOfAWord();
        noSuchArrow();
        statesCountedOnce();
        onlyStatesComeTo();
        Checks.end();
    }

    private static void due(String what, long got, long want) {
        Checks.due(what, got, want);
    }

    private static void newObject() {
        Checks.sentence("Creates three plans whose states all end.");
        MirroredTalks x = new MirroredTalks();
        Checks.due("new plans", Checks.plans(x), ALL_END + " / " + ALL_END + " / " + ALL_END);
        due("states that do not end", x.count(0), 0);
        due("arrows", x.count(1), 0);
        due("history", x.count(2), 0);
        due("text", x.count(3), 0);
        // What one object was told is not told to another one.
        x.kind(0, 0, 1);
        x.arrow(0, 0, 0, 1);
        x.type('0');
        MirroredTalks y = new MirroredTalks();
        for (int what = 0; what < 4; what++) {
            due("another object, " + what, y.count(what), 0);
            due("the first one, " + what, x.count(what), what == 2 ? 2 : 1);
        }
    }

    private static int targetFor(int plan, int state, int word) {
        return (3 * plan + 5 * state + word + state / 2) % 8;
    }

    private static void allPlansAndStates() {
        Checks.sentence("There are 3 plans, numbered from 0, each with 8 states, numbered from 0");
        MirroredTalks x = new MirroredTalks();
        int arrows = 0;
        for (int plan = 0; plan < 3; plan++) {
            for (int state = 0; state < 8; state++) {
                for (int word = 0; word < 6; word++) {
                    due("arrow", x.arrow(plan, state, word, targetFor(plan, state, word)), word + 1);
                    arrows++;
                }
            }
        }
        due("all arrows", x.count(1), arrows);
        for (int plan = 0; plan < 3; plan++) {
            for (int state = 0; state < 8; state++) {
                for (int word = 0; word < 6; word++) {
                    due("arrow of " + plan + state + word, x.stateOf(plan, state, 10 + word),
                            targetFor(plan, state, word));
                }
                due("words of " + plan + state, x.stateOf(plan, state, 1), 63);
                due("kind of " + plan + state, x.kind(plan, state, 1 + (plan + state) % 2), 0);
            }
        }
        due("all states", x.count(0), 24);
        for (int plan = 0; plan < 3; plan++) {
            for (int state = 0; state < 8; state++) {
                due("kind of " + plan + state, x.stateOf(plan, state, 0), 1 + (plan + state) % 2);
            }
        }
        due("arrows are still there", x.count(1), arrows);
    }

    private static void kindsByNumber() {
        Checks.sentence("A state has a kind: 0 it ends (all states at first), 1 it chooses, 2 it waits.");
        MirroredTalks x = Checks.withPlans("0.;1!;2?;7?;6!;5.;");
        int[] kinds = {0, 1, 2, 0, 0, 0, 1, 2};
        for (int state = 0; state < 8; state++) {
            due("kind of " + state, x.stateOf(0, state, 0), kinds[state]);
            due("at first", x.stateOf(1, state, 0), 0);
        }
        for (int plan = 0; plan < 3; plan++) {
            x.kind(plan, 0, plan);
        }
        due("chooses and waits", x.pairOf(1, 2, 0, 3), 4);
        due("ends and waits", x.pairOf(0, 2, 0, 3), 1);
        due("ends and ends", x.talk(0, 0, 2), 1);
    }

    private static void wordsByNumber() {
        Checks.sentence("Words are the letters a to f, told as 0 to 5.");
        MirroredTalks x = Checks.withPlans("0!a2b3c4d5e6f7;");
        for (int word = 0; word < 6; word++) {
            due("arrow by " + word, x.stateOf(0, 0, 10 + word), word + 2);
            due("erase " + word, x.erase(0, 0, word), word + 2);
        }
        due("none is left", x.count(1), 0);
    }

    private static void setsAsBits() {
        Checks.sentence("Sets of words or states are told as bits: bit k is for number k.");
        for (int word = 0; word < 6; word++) {
            MirroredTalks x = new MirroredTalks();
            x.arrow(1, 2, word, 0);
            due("set of the word " + word, x.stateOf(1, 2, 1), 1 << word);
        }
        MirroredTalks x = Checks.withPlans("0!;", "0?;");
        for (int state = 0; state < 8; state++) {
            due("set of the state " + state, x.stateOf(0, state, 3), 1 << state);
            x.arrow(0, 0, 0, state);
            x.arrow(1, 0, 0, 7 - state);
            due("states of the one", x.talk(0, 1, 5), 1 | 1 << state);
            due("states of the other one", x.talk(0, 1, 6), 1 | 1 << 7 - state);
        }
    }

    private static void arrowToTheSameState() {
        Checks.sentence("From a state an arrow by a word may lead to a state (perhaps the same)");
        for (int state = 0; state < 8; state++) {
            MirroredTalks x = new MirroredTalks();
            x.kind(2, state, 2);
            due("arrow", x.arrow(2, state, 5, state), 1);
            due("leads to itself", x.stateOf(2, state, 15), state);
            due("comes to itself", x.stateOf(2, state, 3), 1 << state);
            due("erase", x.erase(2, state, 5), state);
        }
    }

    private static void oneArrowForEachWord() {
        Checks.sentence("there is at most one for each word");
        MirroredTalks x = new MirroredTalks();
        for (int to = 0; to < 8; to++) {
            due("again", x.arrow(1, 3, 2, to), 1);
            due("leads to the last one", x.stateOf(1, 3, 12), to);
            due("arrows", x.count(1), 1);
        }
        due("laid once more", x.arrow(1, 3, 2, 7), 1);
        due("erase", x.erase(1, 3, 2), 7);
        due("none below it", x.erase(1, 3, 2), Checks.NOT_POSSIBLE);
        due("arrows then", x.count(1), 0);
    }

    private static void arrowsOfStatesThatEnd() {
        Checks.sentence("Arrows of a state that ends stay, and are told, but talks, standing in and what is alike"
                + " go by them only when it chooses or waits again.");
        MirroredTalks x = Checks.withPlans("0!a1b2;1!a2;2!a1;", "0?a1b2;1?a2;2?a1;");
        due("before: pairs", x.talk(0, 1, 0), 3);
        due("before: stands in", x.standsIn(0, 2), 0);
        x.kind(0, 0, 0);
        due("they are told as a set", x.stateOf(0, 0, 1), 3);
        due("they are told as arrows", x.stateOf(0, 0, 11), 2);
        due("they are counted", x.count(1), 8);
        due("talks do not go by them", x.talk(0, 1, 0), 1);
        due("standing in does not", x.standsIn(0, 2), 1);
        due("nor the other way", x.standsIn(2, 0), 1);
        due("ends are alike in spite of them", x.stateOf(0, 3, 2), 0);
        due("one comes to no state by them", x.stateOf(0, 0, 3), 1);
        due("nor is it counted", x.unlike(0), 1);
        due("more may be laid", x.arrow(0, 0, 5, 7), 3);
        due("they may be erased", x.erase(0, 0, 5), 7);
        x.kind(0, 0, 1);
        due("again: pairs", x.talk(0, 1, 0), 3);
        due("again: stands in", x.standsIn(0, 2), 0);
        due("again: alike", x.stateOf(0, 3, 2), 3);
        due("again: comes to", x.stateOf(0, 0, 3), 7);
        due("again: counted", x.unlike(0), 2);
        x.kind(0, 0, 2);
        due("waiting: comes to", x.stateOf(0, 0, 3), 7);
        due("waiting: counted", x.unlike(0), 2);
    }

    private static void kindThatItWas() {
        Checks.sentence("Returns what it was");
        MirroredTalks x = new MirroredTalks();
        int was = 0;
        for (int kind : new int[] {0, 1, 1, 2, 2, 0, 2, 1, 0}) {
            due("kind after " + was, x.kind(0, 7, kind), was);
            due("kind is", x.stateOf(0, 7, 0), kind);
            was = kind;
        }
    }

    private static void inPlaceOfOne() {
        Checks.sentence("Lays an arrow, in place of one by the same word, if there is one.");
        for (int word = 0; word < 6; word++) {
            MirroredTalks x = new MirroredTalks();
            due("the first one", x.arrow(2, 7, word, 7), 1);
            due("another word", x.arrow(2, 7, (word + 1) % 6, 6), 2);
            due("in place", x.arrow(2, 7, word, 0), 2);
            due("it leads elsewhere", x.stateOf(2, 7, 10 + word), 0);
            due("the other one stays", x.stateOf(2, 7, 10 + (word + 1) % 6), 6);
            due("arrows", x.count(1), 2);
        }
    }

    private static void arrowsThatTheStateHas() {
        Checks.sentence("Returns how many arrows the state has then");
        MirroredTalks x = new MirroredTalks();
        x.arrow(0, 1, 0, 0);
        x.arrow(1, 0, 0, 0);
        for (int word = 5; word >= 0; word--) {
            due("arrow by " + word, x.arrow(0, 0, word, word), 6 - word);
        }
        for (int word = 0; word < 6; word++) {
            due("in place of " + word, x.arrow(0, 0, word, 7), 6);
        }
        x.erase(0, 0, 3);
        due("in place, with five", x.arrow(0, 0, 4, 1), 5);
        due("and the sixth one again", x.arrow(0, 0, 3, 1), 6);
    }

    private static void stateToWhichItLed() {
        Checks.sentence("Returns the state to which it led");
        MirroredTalks x = new MirroredTalks();
        for (int to = 0; to < 8; to++) {
            x.arrow(0, 2, 3, to);
            due("erase", x.erase(0, 2, 3), to);
            due("it is gone", x.stateOf(0, 2, 1), 0);
        }
    }

    private static void noArrowToErase() {
        Checks.sentence("NOT_POSSIBLE if there is none.");
        MirroredTalks x = new MirroredTalks();
        due("of a new object", x.erase(0, 0, 0), Checks.NOT_POSSIBLE);
        due("the last one of a new object", x.erase(2, 7, 5), Checks.NOT_POSSIBLE);
        x.arrow(1, 3, 2, 0);
        due("beside its plan", x.erase(0, 3, 2), Checks.NOT_POSSIBLE);
        due("behind its plan", x.erase(2, 3, 2), Checks.NOT_POSSIBLE);
        due("beside its state", x.erase(1, 2, 2), Checks.NOT_POSSIBLE);
        due("behind its state", x.erase(1, 4, 2), Checks.NOT_POSSIBLE);
        due("beside its word", x.erase(1, 3, 1), Checks.NOT_POSSIBLE);
        due("behind its word", x.erase(1, 3, 3), Checks.NOT_POSSIBLE);
        due("an arrow to the state 0 is one", x.erase(1, 3, 2), 0);
        due("then there is none", x.erase(1, 3, 2), Checks.NOT_POSSIBLE);
        due("refused ones are no changes", x.count(2), 2);
    }

    private static void statesOfTheCopy() {
        Checks.sentence("Returns how many states of it do not end");
        for (int states = 0; states <= 8; states++) {
            MirroredTalks x = Checks.withPlans("0!a1;3?b2;7!;", "");
            for (int state = 0; state < states; state++) {
                x.kind(2, state, 1 + state % 2);
                x.arrow(2, state, state % 6, 7);
            }
            String source = Checks.plan(x, 2);
            due("copy of " + states, x.copy(2, 0), states);
            Checks.due("the copy", Checks.plan(x, 0), source);
            Checks.due("what was copied", Checks.plan(x, 2), source);
            Checks.due("the third plan", Checks.plan(x, 1), ALL_END);
        }
    }

    private static void bothPlansTheSame() {
        Checks.sentence("INVALID_ARGUMENT if an argument is out of range, or both are the same.");
        MirroredTalks x = Checks.withPlans("0!a1;", "1?b2;", "2!c3;");
        String before = Checks.plans(x);
        for (int plan = 0; plan < 3; plan++) {
            due("same", x.copy(plan, plan), Checks.INVALID);
        }
        Checks.due("nothing changes", Checks.plans(x), before);
        due("nor the history", x.count(2), 3);
        for (int plan = 0; plan < 3; plan++) {
            due("next one", x.copy(plan, (plan + 1) % 3), 1);
            due("the one before", x.copy((plan + 1) % 3, plan), 1);
        }
    }

    private static void mirroredKinds() {
        Checks.sentence("Mirrors a plan: states that choose wait, and states that wait choose; arrows stay.");
        MirroredTalks x = Checks.withPlans("0!a1;1?a0;", "0!a1b2;1?;2.;6?f6;7!a7;", "0?c3;");
        x.arrow(1, 2, 4, 5);
        x.mirror(1);
        Checks.due("mirrored", Checks.plan(x, 1), "0?a1b2;1!;2.e5;3.;4.;5.;6!f6;7?a7;");
        Checks.due("the one before stays", Checks.plan(x, 0), "0!a1;1?a0;2.;3.;4.;5.;6.;7.;");
        Checks.due("the one behind stays", Checks.plan(x, 2), "0?c3;1.;2.;3.;4.;5.;6.;7.;");
        x.mirror(1);
        Checks.due("mirrored twice", Checks.plan(x, 1), "0!a1b2;1?;2.e5;3.;4.;5.;6?f6;7!a7;");
    }

    private static void arrowsStayWhenMirrored() {
        Checks.sentence("arrows stay");
        MirroredTalks x = Checks.withPlans("0!a1b2c3d4e5f6;7?a7b0;");
        x.mirror(0);
        Checks.due("mirrored", Checks.plan(x, 0), "0?a1b2c3d4e5f6;1.;2.;3.;4.;5.;6.;7!a7b0;");
        due("arrows", x.count(1), 8);
    }

    private static void otherKindsThen() {
        Checks.sentence("Returns how many states have another kind then");
        MirroredTalks x = new MirroredTalks();
        due("all end", x.mirror(2), 0);
        due("that is a change, too", x.count(2), 1);
        for (int state = 0; state < 8; state++) {
            x.kind(2, state, 1 + state / 4);
            due("up to " + state, x.mirror(2), state + 1);
            due("and back", x.mirror(2), state + 1);
        }
        due("no state of another plan counts", x.mirror(1), 0);
    }

    private static void alikeBySameKind() {
        Checks.sentence("Two states of a plan are alike if they have the same kind");
        for (int kind = 0; kind < 3; kind++) {
            for (int other = 0; other < 3; other++) {
                MirroredTalks x = new MirroredTalks();
                for (int state = 0; state < 7; state++) {
                    x.kind(0, state, other);
                }
                x.kind(0, 7, kind);
                due("kinds " + kind + other, x.stateOf(0, 7, 2), kind == other ? 0 : 7);
            }
        }
    }

    private static void alikeBySameWords() {
        Checks.sentence("and, unless they end, arrows by the same words");
        for (int words = 0; words < 64; words++) {
            for (int kind = 0; kind < 3; kind++) {
                MirroredTalks x = new MirroredTalks();
                x.kind(0, 0, kind);
                x.kind(0, 1, kind);
                x.arrow(0, 0, 1, 6);
                x.arrow(0, 0, 4, 7);
                for (int word = 0; word < 6; word++) {
                    if ((words >> word & 1) == 1) {
                        x.arrow(0, 1, word, 5);
                    }
                }
                boolean same = words == 2 + 16 || kind == 0;
                due("words " + words + ", kind " + kind, x.stateOf(0, 1, 2), same ? 0 : 1);
            }
        }
    }

    private static void alikeByWhatTheyLeadTo() {
        Checks.sentence("which lead to states that are alike");
        MirroredTalks x = Checks.withPlans("1!a3b5;2!a4b6;3?c7;4?c0;");
        due("by all words", x.stateOf(0, 2, 2), 1);
        x.kind(0, 5, 1);
        due("not by the second word", x.stateOf(0, 2, 2), 2);
        x.kind(0, 6, 1);
        due("by the second word again", x.stateOf(0, 2, 2), 1);
        x.kind(0, 0, 2);
        due("not two words later", x.stateOf(0, 2, 2), 2);
        due("not one word later", x.stateOf(0, 4, 2), 4);
        // The same states, by words that are changed about.
        MirroredTalks y = Checks.withPlans("0!a2b3;1!a3b2;2?;");
        due("changed about", y.stateOf(0, 1, 2), 1);
        y.kind(0, 3, 2);
        due("they do not tell apart", y.stateOf(0, 1, 2), 0);
    }

    private static void alikeBackToItself() {
        Checks.sentence("Where this comes back to itself, it holds");
        MirroredTalks x = Checks.withPlans("0!a0;1!a2;2!a1;3!a4;4!a5;5!a3;6!a1;7!a7;");
        for (int state = 0; state < 8; state++) {
            due("loops of one, two and three", x.stateOf(0, state, 2), 0);
        }
        due("all in one", x.unlike(0), 1);
        MirroredTalks y = Checks.withPlans("0!a1;1?b0;2!a3;3?b2;");
        due("loops of two kinds", y.stateOf(0, 2, 2), 0);
        due("loops of two kinds, the second one", y.stateOf(0, 3, 2), 1);
    }

    private static void alikeUnlessSomethingElse() {
        Checks.sentence("unless something else is against it");
        MirroredTalks x = Checks.withPlans("0!a1;1!a0;2!a3;3!a2b2;");
        due("by a word more", x.stateOf(0, 2, 2), 2);
        MirroredTalks y = Checks.withPlans("0!a1;1!a2;2!a3;3!a0;4!a5;5!a6;6!a7;7!a4;");
        due("loops of four", y.stateOf(0, 4, 2), 0);
        y.kind(0, 7, 2);
        for (int state = 4; state < 8; state++) {
            due("by a kind far off", y.stateOf(0, state, 2), state);
        }
    }

    private static void kindAndWords() {
        Checks.sentence("0: its kind; 1: the words by which it has arrows, as a set");
        for (int words = 0; words < 64; words++) {
            MirroredTalks x = new MirroredTalks();
            x.kind(1, 6, words % 3);
            for (int word = 0; word < 6; word++) {
                if ((words >> word & 1) == 1) {
                    x.arrow(1, 6, word, words % 8);
                }
            }
            due("kind", x.stateOf(1, 6, 0), words % 3);
            due("words", x.stateOf(1, 6, 1), words);
            due("words of a state beside it", x.stateOf(1, 5, 1) + x.stateOf(1, 7, 1), 0);
        }
    }

    private static void lowestStateAlike() {
        Checks.sentence("2: the lowest state of the plan that is alike (perhaps itself)");
        MirroredTalks x = Checks.withPlans("0!;1?;2!a0;3.;4?;5!a0;6.;7!;");
        int[] lowest = {0, 1, 2, 3, 1, 2, 3, 0};
        for (int state = 0; state < 8; state++) {
            due("of " + state, x.stateOf(0, state, 2), lowest[state]);
        }
        due("it is of the plan itself", x.stateOf(1, 7, 2), 0);
        x.copy(0, 2);
        due("of the last plan", x.stateOf(2, 7, 2), 0);
        for (int high = 1; high < 8; high++) {
            for (int low = 0; low < high; low++) {
                onlyTwoAlike(low, high);
            }
        }
    }

    /** Each state has arrows by other words, but for two of them. */
    private static void onlyTwoAlike(int low, int high) {
        MirroredTalks x = new MirroredTalks();
        for (int state = 0; state < 8; state++) {
            x.kind(0, state, 1);
            int words = state == high ? low : state;
            for (int word = 0; word < 3; word++) {
                if ((words >> word & 1) == 1) {
                    x.arrow(0, state, 3 + word, 7);
                }
            }
        }
        for (int state = 0; state < 8; state++) {
            due("of " + state + ", " + low + " like " + high, x.stateOf(0, state, 2), state == high ? low : state);
        }
    }

    private static void statesOneCanComeTo() {
        Checks.sentence("3: the states to which one can come from it along arrows of states that do not end, as a set");
        MirroredTalks x = Checks.withPlans("0?a7;7!f1;1?c6;6!d2;2?b5;5!e3;3?a4;4!a0;");
        for (int state = 0; state < 8; state++) {
            due("all from " + state, x.stateOf(0, state, 3), 255);
        }
        x.kind(0, 2, 0);
        due("up to the end", x.stateOf(0, 0, 3), 1 + 2 + 4 + 64 + 128);
        due("from the end", x.stateOf(0, 2, 3), 4);
        due("from behind the end", x.stateOf(0, 5, 3), 255);
        MirroredTalks y = Checks.withPlans("3!a1b2c4d5e6f7;");
        due("by all words", y.stateOf(0, 3, 3), 255 - 1);
    }

    private static void stateItself() {
        Checks.sentence("as a set (itself, too)");
        for (int kind = 0; kind < 3; kind++) {
            MirroredTalks x = new MirroredTalks();
            x.kind(0, 5, kind);
            due("without arrows", x.stateOf(0, 5, 3), 32);
            x.arrow(0, 5, 0, 7);
            due("with one", x.stateOf(0, 5, 3), kind == 0 ? 32 : 32 + 128);
        }
    }

    private static void arrowOfAWord() {
        Checks.sentence("10 plus a word: the state to which its arrow leads");
        for (int first = 0; first < 8; first++) {
            MirroredTalks x = new MirroredTalks();
            for (int word = 0; word < 6; word++) {
                x.arrow(2, 5, word, (first + 3 * word) % 8);
            }
            for (int word = 0; word < 6; word++) {
                due("arrow", x.stateOf(2, 5, 10 + word), (first + 3 * word) % 8);
            }
        }
    }

    private static void noSuchArrow() {
        Checks.sentence("NOT_FOUND if there is no such arrow.");
        for (int word = 0; word < 6; word++) {
            MirroredTalks x = Checks.withPlans("4!a0b0c0d0e0f0;");
            x.erase(0, 4, word);
            for (int asked = 0; asked < 6; asked++) {
                due("without " + word + ", arrow " + asked, x.stateOf(0, 4, 10 + asked),
                        asked == word ? Checks.NOT_FOUND : 0);
            }
            due("of a state beside it", x.stateOf(0, 5, 10 + word), Checks.NOT_FOUND);
            due("of a plan beside it", x.stateOf(1, 4, 10 + word), Checks.NOT_FOUND);
        }
    }

    private static void statesCountedOnce() {
        Checks.sentence("Counts the states of a plan that one can come to from the state 0, those that are alike"
                + " once.");
        // A chain of one state, of two, and so on, the last one of which ends.
        for (int states = 1; states <= 8; states++) {
            MirroredTalks x = new MirroredTalks();
            for (int state = 0; state < states - 1; state++) {
                x.kind(1, state, 1);
                x.arrow(1, state, 2, state + 1);
            }
            due("chain of " + states, x.unlike(1), states);
            x.arrow(1, states - 1, 2, 0);
            x.kind(1, states - 1, 1);
            due("ring of " + states, x.unlike(1), 1);
        }
        MirroredTalks y = Checks.withPlans("0!a1b2c3d4e5f6;1!;2?;3.;4!;5?;6.;");
        due("three pairs", y.unlike(0), 4);
    }

    private static void onlyStatesComeTo() {
        Checks.sentence("the states of a plan that one can come to from the state 0");
        MirroredTalks x = Checks.withPlans("0.;1!a2;2?a3;3!b1;");
        due("the state 0 alone", x.unlike(0), 1);
        x.kind(0, 0, 1);
        due("without an arrow", x.unlike(0), 1);
        x.arrow(0, 0, 5, 7);
        due("one more", x.unlike(0), 2);
        x.arrow(0, 0, 5, 3);
        due("all of the ring", x.unlike(0), 4);
        due("none in another plan", x.unlike(1), 1);
    }
}
