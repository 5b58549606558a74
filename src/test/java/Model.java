import java.math.BigInteger;
import java.util.ArrayDeque;
import java.util.ArrayList;
import java.util.Arrays;
import java.util.Comparator;
import java.util.Deque;
import java.util.List;
import java.util.Map;
import java.util.TreeMap;
import java.util.TreeSet;
import java.util.regex.Matcher;
import java.util.regex.Pattern;

/**
 * The document once more, in other ways than the program's: rows of words as Strings, pairs in the order of their
 * rows, texts by a pattern. It is slow and lets the machine throw.
 */
final class Model {
    private static final Pattern STATE = Pattern.compile("[0-7](\\.|[!?]([a-f][0-7])*);");

    private static final int FAR = 99;

    private int[][] kinds = new int[3][8];
    private int[][][] arrows = new int[3][8][6];
    private final Deque<int[][][]> history = new ArrayDeque<>();
    private String text = "";

    Model() {
        for (int[][] plan : arrows) {
            for (int[] state : plan) {
                Arrays.fill(state, -1);
            }
        }
    }

    private static boolean in(int value, int most) {
        return 0 <= value && value <= most;
    }

    private void change() {
        int[][][] all = new int[6][][];
        for (int plan = 0; plan < 3; plan++) {
            all[plan] = new int[][] {kinds[plan].clone()};
            all[3 + plan] = Arrays.stream(arrows[plan]).map(int[]::clone).toArray(int[][]::new);
        }
        history.addLast(all);
        if (history.size() == 5) {
            history.removeFirst();
        }
    }

    int undo() {
        if (history.isEmpty()) {
            return Checks.NOT_POSSIBLE;
        }
        int[][][] all = history.removeLast();
        for (int plan = 0; plan < 3; plan++) {
            kinds[plan] = all[plan][0];
            arrows[plan] = all[3 + plan];
        }
        return history.size();
    }

    int kind(int plan, int state, int kind) {
        if (!in(plan, 2) || !in(state, 7) || !in(kind, 2)) {
            return Checks.INVALID;
        }
        change();
        int was = kinds[plan][state];
        kinds[plan][state] = kind;
        return was;
    }

    int arrow(int plan, int state, int word, int to) {
        if (!in(plan, 2) || !in(state, 7) || !in(word, 5) || !in(to, 7)) {
            return Checks.INVALID;
        }
        change();
        arrows[plan][state][word] = to;
        return (int) Arrays.stream(arrows[plan][state]).filter(x -> x >= 0).count();
    }

    int erase(int plan, int state, int word) {
        if (!in(plan, 2) || !in(state, 7) || !in(word, 5)) {
            return Checks.INVALID;
        }
        int was = arrows[plan][state][word];
        if (was < 0) {
            return Checks.NOT_POSSIBLE;
        }
        change();
        arrows[plan][state][word] = -1;
        return was;
    }

    private int lasting(int plan) {
        return (int) Arrays.stream(kinds[plan]).filter(kind -> kind != 0).count();
    }

    int copy(int plan, int into) {
        if (!in(plan, 2) || !in(into, 2) || plan == into) {
            return Checks.INVALID;
        }
        change();
        kinds[into] = kinds[plan].clone();
        arrows[into] = Arrays.stream(arrows[plan]).map(int[]::clone).toArray(int[][]::new);
        return lasting(plan);
    }

    int mirror(int plan) {
        if (!in(plan, 2)) {
            return Checks.INVALID;
        }
        change();
        kinds[plan] = Arrays.stream(kinds[plan]).map(kind -> kind == 0 ? 0 : 3 - kind).toArray();
        return lasting(plan);
    }

    private String words(int plan, int state) {
        StringBuilder words = new StringBuilder();
        for (int word = 0; word < 6; word++) {
            if (arrows[plan][state][word] >= 0) {
                words.append((char) ('a' + word));
            }
        }
        return words.toString();
    }

    private static int bits(String words) {
        return words.chars().map(word -> 1 << (word - 'a')).sum();
    }

    /** Looks for states that differ, by all the words that both have. */
    private boolean alike(int plan, int state, int other, TreeSet<Integer> seen) {
        if (!seen.add(10 * state + other)) {
            return true;
        }
        if (kinds[plan][state] != kinds[plan][other]) {
            return false;
        }
        if (kinds[plan][state] == 0) {
            return true;
        }
        if (!words(plan, state).equals(words(plan, other))) {
            return false;
        }
        for (char word : words(plan, state).toCharArray()) {
            if (!alike(plan, arrows[plan][state][word - 'a'], arrows[plan][other][word - 'a'], seen)) {
                return false;
            }
        }
        return true;
    }

    private int lowestAlike(int plan, int state) {
        int other = 0;
        while (!alike(plan, state, other, new TreeSet<>())) {
            other++;
        }
        return other;
    }

    private void collect(int plan, int state, TreeSet<Integer> reached) {
        if (reached.add(state) && kinds[plan][state] != 0) {
            for (char word : words(plan, state).toCharArray()) {
                collect(plan, arrows[plan][state][word - 'a'], reached);
            }
        }
    }

    int stateOf(int plan, int state, int what) {
        if (!in(plan, 2) || !in(state, 7) || !in(what, 3) && !in(what - 10, 5)) {
            return Checks.INVALID;
        }
        TreeSet<Integer> reached = new TreeSet<>();
        collect(plan, state, reached);
        switch (what) {
            case 0:
                return kinds[plan][state];
            case 1:
                return bits(words(plan, state));
            case 2:
                return lowestAlike(plan, state);
            case 3:
                return reached.stream().mapToInt(x -> 1 << x).sum();
            default:
                int to = arrows[plan][state][what - 10];
                return to < 0 ? Checks.NOT_FOUND : to;
        }
    }

    int unlike(int plan) {
        if (!in(plan, 2)) {
            return Checks.INVALID;
        }
        TreeSet<Integer> reached = new TreeSet<>();
        collect(plan, 0, reached);
        return (int) reached.stream().map(state -> lowestAlike(plan, state)).distinct().count();
    }

    private static int earlier(String row, String other) {
        return Comparator.comparingInt(String::length).thenComparing(Comparator.naturalOrder()).compare(row, other);
    }

    /** The words by which a pair goes on when plans talk. */
    private String common(int one, int state, int other, int otherState) {
        if (kinds[one][state] + kinds[other][otherState] != 3
                || kinds[one][state] == 0 || kinds[other][otherState] == 0) {
            return "";
        }
        return words(one, state).replaceAll("[^ " + words(other, otherState) + "]", "");
    }

    /** The pairs come to, each with its row: goes on until no row gets any better, then sorts. */
    private List<Map.Entry<Integer, String>> pairs(int one, int other) {
        Map<Integer, String> rows = new TreeMap<>();
        rows.put(0, "");
        boolean better = true;
        while (better) {
            better = false;
            for (int pair : new ArrayList<>(rows.keySet())) {
                int state = pair / 10;
                int otherState = pair % 10;
                for (char word : common(one, state, other, otherState).toCharArray()) {
                    int to = 10 * arrows[one][state][word - 'a'] + arrows[other][otherState][word - 'a'];
                    String row = rows.get(pair) + word;
                    if (!rows.containsKey(to) || earlier(row, rows.get(to)) < 0) {
                        rows.put(to, row);
                        better = true;
                    }
                }
            }
        }
        List<Map.Entry<Integer, String>> sorted = new ArrayList<>(rows.entrySet());
        sorted.sort((entry, next) -> earlier(entry.getValue(), next.getValue()));
        return sorted;
    }

    private String missing(int one, int state, int other, int otherState) {
        int kind = kinds[one][state];
        int otherKind = kinds[other][otherState];
        if (kind == 1 && otherKind == 2) {
            return words(one, state).replaceAll("[ " + words(other, otherState) + "]", "");
        }
        return kind == 2 && otherKind == 1 ? missing(other, otherState, one, state) : "";
    }

    private int stuck(int one, int state, int other, int otherState) {
        int kind = kinds[one][state];
        int otherKind = kinds[other][otherState];
        if (kind * otherKind == 0) {
            return kind + otherKind > 0 ? 1 : 0;
        }
        if (kind == 2 && otherKind == 2) {
            return 2;
        }
        if (kind == 1 && otherKind == 1) {
            return 3;
        }
        if ((kind == 1 ? words(one, state) : words(other, otherState)).isEmpty()) {
            return 4;
        }
        return missing(one, state, other, otherState).isEmpty() ? 0 : 5;
    }

    private static int wordAt(String row, int k) {
        return k < row.length() ? row.charAt(k) - 'a' : Checks.NOT_FOUND;
    }

    int pairOf(int one, int other, int pair, int what) {
        if (!in(one, 2) || !in(other, 2) || pair < -1 || !in(what, 4) && !in(what - 10, 63)) {
            return Checks.INVALID;
        }
        List<Map.Entry<Integer, String>> pairs = pairs(one, other);
        if (pair == -1) {
            pairs.removeIf(entry -> stuck(one, entry.getKey() / 10, other, entry.getKey() % 10) == 0);
        }
        int number = Math.max(pair, 0);
        if (number >= pairs.size()) {
            return Checks.NOT_FOUND;
        }
        int state = pairs.get(number).getKey() / 10;
        int otherState = pairs.get(number).getKey() % 10;
        String row = pairs.get(number).getValue();
        switch (what) {
            case 0:
                return state;
            case 1:
                return otherState;
            case 2:
                return row.length();
            case 3:
                return stuck(one, state, other, otherState);
            case 4:
                return wordAt(missing(one, state, other, otherState), 0);
            default:
                return wordAt(row, what - 10);
        }
    }

    /** Whether one can come from a pair back to one of those that have been passed. */
    private boolean endless(int one, int state, int other, int otherState, TreeSet<Integer> passed,
            TreeSet<Integer> done) {
        int pair = 10 * state + otherState;
        if (passed.contains(pair)) {
            return true;
        }
        if (done.contains(pair)) {
            return false;
        }
        passed.add(pair);
        for (char word : common(one, state, other, otherState).toCharArray()) {
            if (endless(one, arrows[one][state][word - 'a'], other, arrows[other][otherState][word - 'a'], passed,
                    done)) {
                return true;
            }
        }
        passed.remove(pair);
        done.add(pair);
        return false;
    }

    private boolean endless(int one, int other) {
        return endless(one, 0, other, 0, new TreeSet<>(), new TreeSet<>());
    }

    private BigInteger talks(int one, int state, int other, int otherState, Map<Integer, BigInteger> known) {
        int pair = 10 * state + otherState;
        if (!known.containsKey(pair)) {
            BigInteger rows = kinds[one][state] + kinds[other][otherState] == 0 ? BigInteger.ONE : BigInteger.ZERO;
            for (char word : common(one, state, other, otherState).toCharArray()) {
                rows = rows.add(talks(one, arrows[one][state][word - 'a'], other,
                        arrows[other][otherState][word - 'a'], known));
            }
            known.put(pair, rows);
        }
        return known.get(pair);
    }

    long talks(int one, int other) {
        if (!in(one, 2) || !in(other, 2)) {
            return Checks.INVALID;
        }
        if (endless(one, other)) {
            return Checks.NOT_POSSIBLE;
        }
        BigInteger rows = talks(one, 0, other, 0, new TreeMap<>());
        return rows.compareTo(BigInteger.TEN.pow(15)) > 0 ? Checks.LIMIT : rows.longValueExact();
    }

    int talk(int one, int other, int what) {
        if (!in(one, 2) || !in(other, 2) || !in(what, 6)) {
            return Checks.INVALID;
        }
        List<Map.Entry<Integer, String>> pairs = pairs(one, other);
        switch (what) {
            case 0:
                return pairs.size();
            case 1:
                return (int) pairs.stream()
                        .filter(entry -> stuck(one, entry.getKey() / 10, other, entry.getKey() % 10) != 0).count();
            case 2:
                return (int) pairs.stream().filter(entry -> isEnd(one, other, entry.getKey())).count();
            case 3:
                return endless(one, other) ? 1 : 0;
            case 4:
                return pairs.stream().filter(entry -> isEnd(one, other, entry.getKey()))
                        .mapToInt(entry -> entry.getValue().length()).min().orElse(Checks.NOT_FOUND);
            case 5:
                return pairs.stream().mapToInt(entry -> 1 << entry.getKey() / 10).reduce(0, (x, y) -> x | y);
            default:
                return pairs.stream().mapToInt(entry -> 1 << entry.getKey() % 10).reduce(0, (x, y) -> x | y);
        }
    }

    private boolean isEnd(int one, int other, int pair) {
        return kinds[one][pair / 10] == 0 && kinds[other][pair % 10] == 0;
    }

    private String wanted(int one, int state, int other, int otherState) {
        String words = words(one, state);
        String otherWords = words(other, otherState);
        return kinds[one][state] == 1
                ? words.replaceAll("[ " + otherWords + "]", "")
                : otherWords.replaceAll("[ " + words + "]", "");
    }

    private int againstItself(int one, int state, int other, int otherState) {
        if (kinds[one][state] != kinds[other][otherState]) {
            return 1;
        }
        if (kinds[one][state] == 0) {
            return 0;
        }
        if (kinds[one][state] == 1 && words(one, state).isEmpty()) {
            return 2;
        }
        return wanted(one, state, other, otherState).isEmpty() ? 0 : 3;
    }

    /** By pairs of states: the fewest words that lead to states that are against it, FAR if none do. */
    private int[][] distances(int one, int other) {
        int[][] far = new int[8][8];
        for (int[] row : far) {
            Arrays.fill(row, FAR);
        }
        for (int round = 0; round <= 64; round++) {
            for (int state = 0; state < 8; state++) {
                for (int otherState = 0; otherState < 8; otherState++) {
                    far[state][otherState] = againstItself(one, state, other, otherState) != 0
                            ? 0 : Math.min(FAR, nearest(one, state, other, otherState, far) + 1);
                }
            }
        }
        return far;
    }

    private int nearest(int one, int state, int other, int otherState, int[][] far) {
        int best = FAR;
        if (kinds[one][state] != 0) {
            String words = kinds[one][state] == 1 ? words(one, state) : words(other, otherState);
            for (char word : words.toCharArray()) {
                best = Math.min(best, far[arrows[one][state][word - 'a']][arrows[other][otherState][word - 'a']]);
            }
        }
        return best;
    }

    int standsIn(int one, int other) {
        if (!in(one, 2) || !in(other, 2)) {
            return Checks.INVALID;
        }
        // Strikes out the pairs against which there is something, until nothing changes.
        boolean[][] holds = new boolean[8][8];
        for (boolean[] row : holds) {
            Arrays.fill(row, true);
        }
        for (int round = 0; round < 65; round++) {
            for (int state = 0; state < 8; state++) {
                for (int otherState = 0; otherState < 8; otherState++) {
                    holds[state][otherState] &= againstItself(one, state, other, otherState) == 0
                            && holdsBehind(one, state, other, otherState, holds);
                }
            }
        }
        return holds[0][0] ? 1 : 0;
    }

    private boolean holdsBehind(int one, int state, int other, int otherState, boolean[][] holds) {
        if (kinds[one][state] == 0) {
            return true;
        }
        String words = kinds[one][state] == 1 ? words(one, state) : words(other, otherState);
        return words.chars().allMatch(
                word -> holds[arrows[one][state][word - 'a']][arrows[other][otherState][word - 'a']]);
    }

    int against(int one, int other, int what) {
        if (!in(one, 2) || !in(other, 2) || !in(what, 4) && !in(what - 10, 63)) {
            return Checks.INVALID;
        }
        if (standsIn(one, other) == 1) {
            return Checks.NOT_FOUND;
        }
        int[][] far = distances(one, other);
        int state = 0;
        int otherState = 0;
        StringBuilder row = new StringBuilder();
        while (far[state][otherState] > 0) {
            String words = kinds[one][state] == 1 ? words(one, state) : words(other, otherState);
            int left = far[state][otherState] - 1;
            for (char word : words.toCharArray()) {
                int to = arrows[one][state][word - 'a'];
                int otherTo = arrows[other][otherState][word - 'a'];
                if (far[to][otherTo] == left) {
                    row.append(word);
                    state = to;
                    otherState = otherTo;
                    break;
                }
            }
        }
        int reason = againstItself(one, state, other, otherState);
        switch (what) {
            case 0:
                return row.length();
            case 1:
                return state;
            case 2:
                return otherState;
            case 3:
                return reason;
            case 4:
                return reason == 3 ? wordAt(wanted(one, state, other, otherState), 0) : Checks.NOT_FOUND;
            default:
                return wordAt(row.toString(), what - 10);
        }
    }

    int count(int what) {
        switch (what) {
            case 0:
                return lasting(0) + lasting(1) + lasting(2);
            case 1:
                return (int) Arrays.stream(arrows).flatMap(Arrays::stream).flatMapToInt(Arrays::stream)
                        .filter(to -> to >= 0).count();
            case 2:
                return history.size();
            case 3:
                return text.length();
            default:
                return in(what - 10, 8) ? standsIn((what - 10) / 3, (what - 10) % 3) : Checks.INVALID;
        }
    }

    int type(int character) {
        if (character < ' ' || character > '~') {
            return Checks.INVALID;
        }
        if (text.length() == 80) {
            return Checks.LIMIT;
        }
        text += (char) character;
        return text.length();
    }

    int clearText() {
        int was = text.length();
        text = "";
        return was;
    }

    /** The states of the text, and null behind them if there is a fault, which is told in fault. */
    private List<String> states(int[] fault) {
        List<String> states = new ArrayList<>();
        int start = 0;
        while (start < text.length()) {
            int length = 1;
            while (length <= text.length() - start && goesOn(text.substring(start, start + length))) {
                length++;
            }
            String state = text.substring(start, Math.min(start + length, text.length()));
            int reason = 0;
            int cause = Checks.NOT_FOUND;
            if (!STATE.matcher(state).matches()) {
                reason = 1;
                cause = length - 1;
            } else if (states.stream().anyMatch(before -> before.charAt(0) == state.charAt(0))) {
                reason = 2;
            } else {
                Matcher again = Pattern.compile("([a-f])[0-7](?=;|[a-f])").matcher(state);
                String before = "";
                while (again.find() && reason == 0) {
                    if (before.contains(again.group(1))) {
                        reason = 3;
                        cause = again.group(1).charAt(0) - 'a';
                    }
                    before += again.group(1);
                }
            }
            if (reason != 0) {
                fault[0] = start;
                fault[1] = reason;
                fault[2] = cause;
                states.add(null);
                return states;
            }
            states.add(state);
            start += length;
        }
        return states;
    }

    /** Whether something can be put behind the beginning of a state. */
    private static boolean goesOn(String beginning) {
        Matcher matcher = STATE.matcher(beginning);
        return !matcher.matches() && matcher.hitEnd();
    }

    int fault(int what) {
        if (!in(what, 2)) {
            return Checks.INVALID;
        }
        int[] fault = {Checks.NOT_FOUND, Checks.NOT_FOUND, Checks.NOT_FOUND};
        states(fault);
        return fault[what];
    }

    int read(int plan) {
        if (!in(plan, 2)) {
            return Checks.INVALID;
        }
        List<String> states = states(new int[3]);
        if (states.contains(null)) {
            return Checks.NOT_POSSIBLE;
        }
        change();
        kinds[plan] = new int[8];
        arrows[plan] = new int[8][6];
        for (int[] state : arrows[plan]) {
            Arrays.fill(state, -1);
        }
        for (String state : states) {
            int number = state.charAt(0) - '0';
            kinds[plan][number] = ".!?".indexOf(state.charAt(1));
            for (int at = 2; at < state.length() - 1; at += 2) {
                arrows[plan][number][state.charAt(at) - 'a'] = state.charAt(at + 1) - '0';
            }
        }
        return states.size();
    }
}
