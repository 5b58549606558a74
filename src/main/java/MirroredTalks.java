import java.util.Arrays;

/** Plans of talks by two sides: what two of them come to, and which can stand in for which. */
public final class MirroredTalks {
    public static final int INVALID_ARGUMENT = -1000001;
    public static final int NOT_POSSIBLE = -1000002;
    public static final int LIMIT_REACHED = -1000003;
    public static final int NOT_FOUND = -1000004;

    private static final int PLANS = 3;
    private static final int STATES = 8;
    private static final int WORDS = 6;
    private static final int PAIRS = 64;
    private static final int NONE = -1;

    private static final int ENDS = 0;
    private static final int CHOOSES = 1;
    private static final int WAITS = 2;

    /** A question from here on asks for one of several words, by its number. */
    private static final int FIRST_WORD = 10;
    /** Asks for the first pair that is stuck, wherever it stands. */
    private static final int FIRST_STUCK = -1;
    /** How many words of a row may be asked for. */
    private static final int ROW_WORDS = 64;
    /** A count from here on asks whether one plan can stand in for another one. */
    private static final int FIRST_STAND_IN = 10;

    private static final int FIRST_CHARACTER = 32;
    private static final int LAST_CHARACTER = 126;

    private static final long MOST_TALKS = 1000000000000000L;
    private static final long ENDLESS = -1L;

    private final Plan first = new Plan();
    private final Plan second = new Plan();
    private final Plan third = new Plan();
    private final History history = new History();
    private final PlanText text = new PlanText();
    private final Likeness likeness = new Likeness();
    private final TalkPairs talkPairs = new TalkPairs(first);
    private final RowCount rowCount = new RowCount();
    private final StandInPairs standInPairs = new StandInPairs(first);

    public MirroredTalks() {
    }

    // ---- plans

    public int kind(int plan, int state, int kind) {
        if (!isPlan(plan) || !isState(state) || !isKind(kind)) {
            return INVALID_ARGUMENT;
        }
        remember();
        int before = planAt(plan).kindOf(state);
        planAt(plan).setKind(state, kind);
        return before;
    }

    public int arrow(int plan, int state, int word, int to) {
        if (!isPlan(plan) || !isState(state) || !isWord(word) || !isState(to)) {
            return INVALID_ARGUMENT;
        }
        remember();
        planAt(plan).setTarget(state, word, to);
        return Integer.bitCount(planAt(plan).wordsOf(state));
    }

    public int erase(int plan, int state, int word) {
        if (!isPlan(plan) || !isState(state) || !isWord(word)) {
            return INVALID_ARGUMENT;
        }
        int before = planAt(plan).targetOf(state, word);
        if (before == NONE) {
            return NOT_POSSIBLE;
        }
        remember();
        planAt(plan).setTarget(state, word, NONE);
        return before;
    }

    public int copy(int plan, int into) {
        if (!isPlan(plan) || !isPlan(into) || plan == into) {
            return INVALID_ARGUMENT;
        }
        remember();
        planAt(into).take(planAt(plan));
        return planAt(into).lastingStates();
    }

    public int mirror(int plan) {
        if (!isPlan(plan)) {
            return INVALID_ARGUMENT;
        }
        remember();
        planAt(plan).swapSides();
        return planAt(plan).lastingStates();
    }

    public int stateOf(int plan, int state, int what) {
        boolean asksArrow = what >= FIRST_WORD && what < FIRST_WORD + WORDS;
        if (!isPlan(plan) || !isState(state) || !asksArrow && (what < 0 || what > 3)) {
            return INVALID_ARGUMENT;
        }
        Plan asked = planAt(plan);
        switch (what) {
            case 0:
                return asked.kindOf(state);
            case 1:
                return asked.wordsOf(state);
            case 2:
                likeness.compare(asked);
                return likeness.lowestAlike(state);
            case 3:
                return asked.comesTo(state);
            default:
                return foundOr(asked.targetOf(state, what - FIRST_WORD));
        }
    }

    public int unlike(int plan) {
        if (!isPlan(plan)) {
            return INVALID_ARGUMENT;
        }
        int reached = planAt(plan).comesTo(0);
        likeness.compare(planAt(plan));
        int lowest = 0;
        for (int state = 0; state < STATES; state++) {
            if (holds(reached, state)) {
                lowest |= 1 << likeness.lowestAlike(state);
            }
        }
        return Integer.bitCount(lowest);
    }

    // ---- talks

    public int pairOf(int one, int other, int pair, int what) {
        if (!isPlan(one) || !isPlan(other) || pair < FIRST_STUCK || !isPairQuestion(what)) {
            return INVALID_ARGUMENT;
        }
        talkPairs.walk(planAt(one), planAt(other));
        int position = pair == FIRST_STUCK ? talkPairs.firstFaulty() : pair;
        if (!talkPairs.has(position)) {
            return NOT_FOUND;
        }
        switch (what) {
            case 0:
                return talkPairs.stateOfOne(position);
            case 1:
                return talkPairs.stateOfOther(position);
            case 2:
                return talkPairs.lengthOf(position);
            default:
                return talkPairs.tellMore(position, what);
        }
    }

    public int talk(int one, int other, int what) {
        if (!isPlan(one) || !isPlan(other) || what < 0 || what > 6) {
            return INVALID_ARGUMENT;
        }
        talkPairs.walk(planAt(one), planAt(other));
        switch (what) {
            case 0:
                return talkPairs.size();
            case 1:
                return talkPairs.stuckPairs();
            case 2:
                return talkPairs.ends();
            case 3:
                return rowCount.rowsToEnds(talkPairs) == ENDLESS ? 1 : 0;
            case 4:
                return foundOr(talkPairs.fewestWordsToEnd());
            case 5:
                return talkPairs.statesOfOne();
            default:
                return talkPairs.statesOfOther();
        }
    }

    public long talks(int one, int other) {
        if (!isPlan(one) || !isPlan(other)) {
            return INVALID_ARGUMENT;
        }
        talkPairs.walk(planAt(one), planAt(other));
        long rows = rowCount.rowsToEnds(talkPairs);
        if (rows == ENDLESS) {
            return NOT_POSSIBLE;
        }
        return rows > MOST_TALKS ? LIMIT_REACHED : rows;
    }

    // ---- standing in

    public int standsIn(int one, int other) {
        if (!isPlan(one) || !isPlan(other)) {
            return INVALID_ARGUMENT;
        }
        standInPairs.walk(planAt(one), planAt(other));
        return standInPairs.firstFaulty() == NONE ? 1 : 0;
    }

    public int against(int one, int other, int what) {
        if (!isPlan(one) || !isPlan(other) || !isPairQuestion(what)) {
            return INVALID_ARGUMENT;
        }
        standInPairs.walk(planAt(one), planAt(other));
        int position = standInPairs.firstFaulty();
        if (!standInPairs.has(position)) {
            return NOT_FOUND;
        }
        switch (what) {
            case 0:
                return standInPairs.lengthOf(position);
            case 1:
                return standInPairs.stateOfOne(position);
            case 2:
                return standInPairs.stateOfOther(position);
            default:
                return standInPairs.tellMore(position, what);
        }
    }

    public int count(int what) {
        int standIn = what - FIRST_STAND_IN;
        if (what >= FIRST_STAND_IN && what < FIRST_STAND_IN + PLANS * PLANS) {
            return standsIn(standIn / PLANS, standIn % PLANS);
        }
        switch (what) {
            case 0:
                return first.lastingStates() + second.lastingStates() + third.lastingStates();
            case 1:
                return first.arrows() + second.arrows() + third.arrows();
            case 2:
                return history.size();
            case 3:
                return text.length();
            default:
                return INVALID_ARGUMENT;
        }
    }

    public int undo() {
        if (history.size() == 0) {
            return NOT_POSSIBLE;
        }
        history.restore(first, second, third);
        return history.size();
    }

    // ---- texts

    public int type(int character) {
        if (character < FIRST_CHARACTER || character > LAST_CHARACTER) {
            return INVALID_ARGUMENT;
        }
        if (text.isFull()) {
            return LIMIT_REACHED;
        }
        text.append(character);
        return text.length();
    }

    public int clearText() {
        int before = text.length();
        text.clear();
        return before;
    }

    public int fault(int what) {
        if (what < 0 || what > 2) {
            return INVALID_ARGUMENT;
        }
        text.parse();
        if (!text.isFaulty()) {
            return NOT_FOUND;
        }
        switch (what) {
            case 0:
                return text.faultPosition();
            case 1:
                return text.faultReason();
            default:
                return foundOr(text.faultCause());
        }
    }

    public int read(int plan) {
        if (!isPlan(plan)) {
            return INVALID_ARGUMENT;
        }
        text.parse();
        if (text.isFaulty()) {
            return NOT_POSSIBLE;
        }
        remember();
        planAt(plan).take(text.draft());
        return text.toldStates();
    }

    private void remember() {
        history.record(first, second, third);
    }

    private Plan planAt(int plan) {
        return plan == 0 ? first : plan == 1 ? second : third;
    }

    private static boolean isPlan(int plan) {
        return plan >= 0 && plan < PLANS;
    }

    private static boolean isState(int state) {
        return state >= 0 && state < STATES;
    }

    private static boolean isWord(int word) {
        return word >= 0 && word < WORDS;
    }

    private static boolean isKind(int kind) {
        return kind >= ENDS && kind <= WAITS;
    }

    private static boolean isPairQuestion(int what) {
        return what >= 0 && what <= 4 || what >= FIRST_WORD && what < FIRST_WORD + ROW_WORDS;
    }

    private static int foundOr(int value) {
        return value == NONE ? NOT_FOUND : value;
    }

    private static boolean holds(int set, int number) {
        return (set >> number & 1) == 1;
    }

    private static int firstWordIn(int set) {
        for (int word = 0; word < WORDS; word++) {
            if (holds(set, word)) {
                return word;
            }
        }
        return NONE;
    }

    /** Reads a row without ever leaving it, so that no caller has to know its length. */
    private static int cellOf(int[] row, int index) {
        return index >= 0 && index < row.length ? row[index] : NONE;
    }

    /** One plan: of each state its kind, and for each word the state to which its arrow leads. */
    private static final class Plan {
        private static final int STATE_CELLS = 7;
        static final int CELLS = 56;

        /** One row for all, because the history keeps plans as rows. */
        private final int[] cells = new int[CELLS];

        Plan() {
            clear();
        }

        void clear() {
            for (int state = 0; state < STATES; state++) {
                setKind(state, ENDS);
                for (int word = 0; word < WORDS; word++) {
                    setTarget(state, word, NONE);
                }
            }
        }

        int kindOf(int state) {
            return isState(state) ? cells[state * STATE_CELLS] : ENDS;
        }

        void setKind(int state, int kind) {
            if (isState(state)) {
                cells[state * STATE_CELLS] = kind;
            }
        }

        int targetOf(int state, int word) {
            return isState(state) && isWord(word) ? cells[state * STATE_CELLS + 1 + word] : NONE;
        }

        void setTarget(int state, int word, int to) {
            if (isState(state) && isWord(word)) {
                cells[state * STATE_CELLS + 1 + word] = to;
            }
        }

        int wordsOf(int state) {
            int words = 0;
            for (int word = 0; word < WORDS; word++) {
                if (targetOf(state, word) != NONE) {
                    words |= 1 << word;
                }
            }
            return words;
        }

        int arrows() {
            int arrows = 0;
            for (int state = 0; state < STATES; state++) {
                arrows += Integer.bitCount(wordsOf(state));
            }
            return arrows;
        }

        int lastingStates() {
            int states = 0;
            for (int state = 0; state < STATES; state++) {
                if (kindOf(state) != ENDS) {
                    states++;
                }
            }
            return states;
        }

        void swapSides() {
            for (int state = 0; state < STATES; state++) {
                int kind = kindOf(state);
                if (kind != ENDS) {
                    setKind(state, kind == CHOOSES ? WAITS : CHOOSES);
                }
            }
        }

        /** The states to which one can come from a state, itself too. */
        int comesTo(int state) {
            int reached = isState(state) ? 1 << state : 0;
            // No state is further off than the others are many.
            for (int round = 1; round < STATES; round++) {
                for (int from = 0; from < STATES; from++) {
                    if (holds(reached, from)) {
                        reached |= statesBehind(from);
                    }
                }
            }
            return reached;
        }

        private int statesBehind(int state) {
            int states = 0;
            for (int word = 0; word < WORDS; word++) {
                int to = targetOf(state, word);
                if (to != NONE && kindOf(state) != ENDS) {
                    states |= 1 << to;
                }
            }
            return states;
        }

        void take(Plan plan) {
            System.arraycopy(plan.cells, 0, cells, 0, CELLS);
        }

        void saveTo(int[] row, int from) {
            if (from >= 0 && from <= row.length - CELLS) {
                System.arraycopy(cells, 0, row, from, CELLS);
            }
        }

        void loadFrom(int[] row, int from) {
            if (from >= 0 && from <= row.length - CELLS) {
                System.arraycopy(row, from, cells, 0, CELLS);
            }
        }
    }

    /** The latest states of all plans, the oldest one first. */
    private static final class History {
        private static final int MOST = 4;
        private static final int ENTRY = 168;
        private static final int SECOND = Plan.CELLS;
        private static final int THIRD = 2 * Plan.CELLS;

        private final int[] entries = new int[MOST * ENTRY];
        private int size;

        int size() {
            return size;
        }

        void record(Plan first, Plan second, Plan third) {
            if (size >= MOST) {
                System.arraycopy(entries, ENTRY, entries, 0, (MOST - 1) * ENTRY);
                size = MOST - 1;
            }
            int from = size * ENTRY;
            first.saveTo(entries, from);
            second.saveTo(entries, from + SECOND);
            third.saveTo(entries, from + THIRD);
            size++;
        }

        void restore(Plan first, Plan second, Plan third) {
            if (size > 0) {
                size--;
                int from = size * ENTRY;
                first.loadFrom(entries, from);
                second.loadFrom(entries, from + SECOND);
                third.loadFrom(entries, from + THIRD);
            }
        }
    }

    /** Which states of a plan are alike. */
    private static final class Likeness {
        private final boolean[] alike = new boolean[PAIRS];

        void compare(Plan plan) {
            for (int one = 0; one < STATES; one++) {
                for (int other = 0; other < STATES; other++) {
                    alike[one * STATES + other] = looksAlike(plan, one, other);
                }
            }
            // A round that changes anything makes more groups of states, and there are no more of these than states.
            for (int round = 1; round < STATES; round++) {
                part(plan);
            }
        }

        private void part(Plan plan) {
            for (int one = 0; one < STATES; one++) {
                for (int other = 0; other < STATES; other++) {
                    if (!leadsAlike(plan, one, other)) {
                        alike[one * STATES + other] = false;
                    }
                }
            }
        }

        private static boolean looksAlike(Plan plan, int one, int other) {
            int kind = plan.kindOf(one);
            return kind == plan.kindOf(other) && (kind == ENDS || plan.wordsOf(one) == plan.wordsOf(other));
        }

        private boolean leadsAlike(Plan plan, int one, int other) {
            if (plan.kindOf(one) == ENDS) {
                return true;
            }
            for (int word = 0; word < WORDS; word++) {
                int to = plan.targetOf(one, word);
                int otherTo = plan.targetOf(other, word);
                if (to != NONE && otherTo != NONE && !areAlike(to, otherTo)) {
                    return false;
                }
            }
            return true;
        }

        private boolean areAlike(int one, int other) {
            return isState(one) && isState(other) && alike[one * STATES + other];
        }

        int lowestAlike(int state) {
            for (int other = 0; other < STATES; other++) {
                if (areAlike(state, other)) {
                    return other;
                }
            }
            return state;
        }
    }

    /** The pairs of states to which the same words lead two plans, in their order. */
    private abstract static class Pairs {
        /** By position in the order: the state of the one times STATES, plus that of the other one. */
        private final int[] pairs = new int[PAIRS];
        /** By pair: its position, or NONE. */
        private final int[] positions = new int[PAIRS];
        private final int[] lengths = new int[PAIRS];
        private final int[] origins = new int[PAIRS];
        private final int[] lastWords = new int[PAIRS];
        private Plan one;
        private Plan other;
        private int size;

        Pairs(Plan plan) {
            one = plan;
            other = plan;
        }

        /** Whether states of these kinds go along their arrows by a word that both have. */
        abstract boolean goTogether(int kind, int otherKind);

        /** What is against states of these kinds with arrows by these words, 0 if nothing is. */
        abstract int reasonFor(int kind, int words, int otherKind, int otherWords);

        /** Goes breadth first and by the alphabet, which is just the order of pairs. */
        void walk(Plan plan, Plan otherPlan) {
            one = plan;
            other = otherPlan;
            Arrays.fill(positions, NONE);
            size = 0;
            add(0, 0, NONE, NONE);
            for (int position = 0; position < size && position < PAIRS; position++) {
                for (int word = 0; word < WORDS; word++) {
                    int pair = pairBehind(position, word);
                    if (pair != NONE && cellOf(positions, pair) == NONE) {
                        add(pair, lengthOf(position) + 1, position, word);
                    }
                }
            }
        }

        private void add(int pair, int length, int origin, int word) {
            if (pair >= 0 && pair < PAIRS && size < PAIRS) {
                pairs[size] = pair;
                lengths[size] = length;
                origins[size] = origin;
                lastWords[size] = word;
                positions[pair] = size;
                size++;
            }
        }

        private int pairBehind(int position, int word) {
            int state = stateOfOne(position);
            int otherState = stateOfOther(position);
            int to = one.targetOf(state, word);
            int otherTo = other.targetOf(otherState, word);
            if (to == NONE || otherTo == NONE || !goTogether(one.kindOf(state), other.kindOf(otherState))) {
                return NONE;
            }
            return to * STATES + otherTo;
        }

        /** The position of the pair to which a word leads from another one, or NONE. */
        int positionBehind(int position, int word) {
            return cellOf(positions, pairBehind(position, word));
        }

        int size() {
            return size;
        }

        boolean has(int position) {
            return position >= 0 && position < size;
        }

        int stateOfOne(int position) {
            return cellOf(pairs, position) / STATES;
        }

        int stateOfOther(int position) {
            return cellOf(pairs, position) % STATES;
        }

        int kindOfOne(int position) {
            return one.kindOf(stateOfOne(position));
        }

        int kindOfOther(int position) {
            return other.kindOf(stateOfOther(position));
        }

        int lengthOf(int position) {
            return cellOf(lengths, position);
        }

        int reasonOf(int position) {
            int state = stateOfOne(position);
            int otherState = stateOfOther(position);
            return reasonFor(one.kindOf(state), one.wordsOf(state),
                    other.kindOf(otherState), other.wordsOf(otherState));
        }

        private int firstLackedWord(int position) {
            int kind = kindOfOne(position);
            if (!goTogether(kind, kindOfOther(position))) {
                return NONE;
            }
            int words = one.wordsOf(stateOfOne(position));
            int otherWords = other.wordsOf(stateOfOther(position));
            return firstWordIn(lackedWords(kind, words, otherWords));
        }

        /** The words that one of two states that go together has, and the other one would have to have, too. */
        static int lackedWords(int kind, int words, int otherWords) {
            return kind == CHOOSES ? words & ~otherWords : otherWords & ~words;
        }

        /** The first pair that something is against, or NONE. */
        int firstFaulty() {
            for (int position = 0; position < size; position++) {
                if (reasonOf(position) != 0) {
                    return position;
                }
            }
            return NONE;
        }

        /** Answers the questions that talks and standing in number alike. */
        int tellMore(int position, int what) {
            switch (what) {
                case 3:
                    return reasonOf(position);
                case 4:
                    return foundOr(firstLackedWord(position));
                default:
                    return foundOr(wordOfRow(position, what - FIRST_WORD));
            }
        }

        private int wordOfRow(int position, int number) {
            int at = position;
            for (int length = lengthOf(position); length > number + 1; length--) {
                at = cellOf(origins, at);
            }
            return number < lengthOf(position) ? cellOf(lastWords, at) : NONE;
        }
    }

    /** The pairs that two plans come to when they talk; what is against a pair is why it is stuck. */
    private static final class TalkPairs extends Pairs {
        private static final int ONLY_ONE_ENDS = 1;
        private static final int BOTH_WAIT = 2;
        private static final int BOTH_CHOOSE = 3;
        private static final int NO_ARROW = 4;
        private static final int CASE_MISSING = 5;

        TalkPairs(Plan plan) {
            super(plan);
        }

        boolean goTogether(int kind, int otherKind) {
            return kind != ENDS && otherKind != ENDS && kind != otherKind;
        }

        int reasonFor(int kind, int words, int otherKind, int otherWords) {
            if (kind == ENDS || otherKind == ENDS) {
                return kind == otherKind ? 0 : ONLY_ONE_ENDS;
            }
            if (kind == otherKind) {
                return kind == WAITS ? BOTH_WAIT : BOTH_CHOOSE;
            }
            int choice = kind == CHOOSES ? words : otherWords;
            if (choice == 0) {
                return NO_ARROW;
            }
            return lackedWords(kind, words, otherWords) == 0 ? 0 : CASE_MISSING;
        }

        boolean isEnd(int position) {
            return kindOfOne(position) == ENDS && kindOfOther(position) == ENDS;
        }

        int stuckPairs() {
            int stuck = 0;
            for (int position = 0; position < size(); position++) {
                if (reasonOf(position) != 0) {
                    stuck++;
                }
            }
            return stuck;
        }

        int ends() {
            int ends = 0;
            for (int position = 0; position < size(); position++) {
                if (isEnd(position)) {
                    ends++;
                }
            }
            return ends;
        }

        int fewestWordsToEnd() {
            for (int position = 0; position < size(); position++) {
                if (isEnd(position)) {
                    return lengthOf(position);
                }
            }
            return NONE;
        }

        int statesOfOne() {
            int states = 0;
            for (int position = 0; position < size(); position++) {
                states |= 1 << stateOfOne(position);
            }
            return states;
        }

        int statesOfOther() {
            int states = 0;
            for (int position = 0; position < size(); position++) {
                states |= 1 << stateOfOther(position);
            }
            return states;
        }
    }

    /** The pairs to which words lead a plan and the one for which it shall stand in. */
    private static final class StandInPairs extends Pairs {
        private static final int KINDS_UNLIKE = 1;
        private static final int NO_ARROW = 2;
        private static final int ARROW_WANTED = 3;

        StandInPairs(Plan plan) {
            super(plan);
        }

        /** Going by the words that both have is enough: where one lacks a word, the pair itself is against it. */
        boolean goTogether(int kind, int otherKind) {
            return kind != ENDS && kind == otherKind;
        }

        int reasonFor(int kind, int words, int otherKind, int otherWords) {
            if (kind != otherKind) {
                return KINDS_UNLIKE;
            }
            if (kind == ENDS) {
                return 0;
            }
            if (kind == CHOOSES && words == 0) {
                return NO_ARROW;
            }
            return lackedWords(kind, words, otherWords) == 0 ? 0 : ARROW_WANTED;
        }
    }

    /** Counts the rows of words by which talks come to an end. */
    private static final class RowCount {
        /** By position: how many arrows lead there from pairs whose rows are not all counted yet. */
        private final int[] openWays = new int[PAIRS];
        /** By position: how many rows of those that are counted lead there. */
        private final long[] rows = new long[PAIRS];
        /** The positions whose rows are all counted. */
        private final int[] ready = new int[PAIRS];
        private int readySize;

        /** Returns how many, MOST_TALKS + 1 for all numbers above MOST_TALKS, or ENDLESS. */
        long rowsToEnds(TalkPairs talk) {
            countWays(talk);
            long toEnds = 0;
            rows[0] = 1;
            if (openWays[0] == 0) {
                setReady(0);
            }
            for (int at = 0; at < readySize && at < PAIRS; at++) {
                int position = ready[at];
                if (talk.isEnd(position)) {
                    toEnds = capped(toEnds + rowsTo(position));
                }
                for (int word = 0; word < WORDS; word++) {
                    goAlong(talk.positionBehind(position, word), rowsTo(position));
                }
            }
            // A pair to which talks can come back never gets ready.
            return readySize < talk.size() ? ENDLESS : toEnds;
        }

        private void countWays(TalkPairs talk) {
            Arrays.fill(openWays, 0);
            Arrays.fill(rows, 0L);
            readySize = 0;
            for (int position = 0; position < talk.size(); position++) {
                for (int word = 0; word < WORDS; word++) {
                    int to = talk.positionBehind(position, word);
                    if (isPosition(to)) {
                        openWays[to]++;
                    }
                }
            }
        }

        private void goAlong(int to, long more) {
            if (isPosition(to)) {
                rows[to] = capped(rows[to] + more);
                openWays[to]--;
                if (openWays[to] == 0) {
                    setReady(to);
                }
            }
        }

        private void setReady(int position) {
            if (readySize < PAIRS) {
                ready[readySize] = position;
                readySize++;
            }
        }

        private long rowsTo(int position) {
            return isPosition(position) ? rows[position] : 0;
        }

        private static boolean isPosition(int position) {
            return position >= 0 && position < PAIRS;
        }

        private static long capped(long number) {
            return Math.min(number, MOST_TALKS + 1);
        }
    }

    /** The text, and what it tells as a plan. */
    private static final class PlanText {
        private static final int MOST = 80;

        private static final int NOT_OF_THE_FORM = 1;
        private static final int TOLD_BEFORE = 2;
        private static final int WORD_TWICE = 3;

        /** What may come next in a state's text, or how it came out. */
        private static final int STATE = 0;
        private static final int KIND = 1;
        private static final int CLOSE = 2;
        private static final int WORD_OR_CLOSE = 3;
        private static final int TARGET = 4;
        private static final int WHOLE = 5;
        private static final int BROKEN = 6;

        private final int[] characters = new int[MOST];
        private int length;
        private final Plan draft = new Plan();
        private int told;
        private int faultPosition;
        private int faultReason;
        private int faultCause;

        int length() {
            return length;
        }

        boolean isFull() {
            return length >= MOST;
        }

        void append(int character) {
            if (length < MOST) {
                characters[length] = character;
                length++;
            }
        }

        void clear() {
            length = 0;
        }

        Plan draft() {
            return draft;
        }

        int toldStates() {
            return Integer.bitCount(told);
        }

        boolean isFaulty() {
            return faultReason != 0;
        }

        int faultPosition() {
            return faultPosition;
        }

        int faultReason() {
            return faultReason;
        }

        /** The cause, or NONE. */
        int faultCause() {
            return faultCause;
        }

        /** Makes the draft the plan of the text, up to its fault if it has one. */
        void parse() {
            draft.clear();
            told = 0;
            setFault(NONE, 0, NONE);
            int start = 0;
            for (int states = 0; states < MOST && start < length && !isFaulty(); states++) {
                int end = start;
                int next = after(STATE, characterAt(end));
                for (int steps = 0; steps < MOST && next < WHOLE; steps++) {
                    end++;
                    next = after(next, characterAt(end));
                }
                if (next == WHOLE) {
                    takeState(start, end);
                } else {
                    setFault(start, NOT_OF_THE_FORM, end - start);
                }
                start = end + 1;
            }
        }

        private static int after(int expected, int character) {
            switch (expected) {
                case STATE:
                    return isState(character - '0') ? KIND : BROKEN;
                case KIND:
                    return character == '.' ? CLOSE : character == '!' || character == '?' ? WORD_OR_CLOSE : BROKEN;
                case CLOSE:
                    return character == ';' ? WHOLE : BROKEN;
                case WORD_OR_CLOSE:
                    return character == ';' ? WHOLE : isWord(character - 'a') ? TARGET : BROKEN;
                case TARGET:
                    return isState(character - '0') ? WORD_OR_CLOSE : BROKEN;
                default:
                    return BROKEN;
            }
        }

        /** Takes over a state that is of the form, its ";" being at the end. */
        private void takeState(int start, int end) {
            int state = characterAt(start) - '0';
            if (holds(told, state)) {
                setFault(start, TOLD_BEFORE, NONE);
                return;
            }
            told |= 1 << state;
            int sign = characterAt(start + 1);
            draft.setKind(state, sign == '.' ? ENDS : sign == '!' ? CHOOSES : WAITS);
            for (int at = start + 2; at < end; at += 2) {
                int word = characterAt(at) - 'a';
                if (draft.targetOf(state, word) != NONE) {
                    setFault(start, WORD_TWICE, word);
                    return;
                }
                draft.setTarget(state, word, characterAt(at + 1) - '0');
            }
        }

        private void setFault(int position, int reason, int cause) {
            faultPosition = position;
            faultReason = reason;
            faultCause = cause;
        }

        /** Behind its end the text has no character, which no form allows. */
        private int characterAt(int position) {
            return position < length ? cellOf(characters, position) : NONE;
        }
    }
}
