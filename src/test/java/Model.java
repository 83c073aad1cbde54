import java.util.ArrayList;
import java.util.Arrays;
import java.util.List;

/**
 * The document once more, written from its words in another way than the class: lists instead of
 * bits, the limit as a constraint like the others, the check by recursion over the whole log.
 */
final class Model {
    private static final int[] NO_TERM = null;

    private record Constraint(List<int[]> terms, long bound) { }

    private final int[] cost = new int[17];
    private final List<Constraint> constraints = new ArrayList<>();
    private List<int[]> open = new ArrayList<>();
    private int allTerms = 0;
    private boolean started = false;

    private final List<Integer> log = new ArrayList<>();
    /** What was set, in order: the variable, its value, and whether it is a choice that is 0. */
    private final List<int[]> trail = new ArrayList<>();
    private int[] best = null;
    private int steps = 0;
    private int state = 2;

    private boolean judged = false;
    private int verdict;
    private int needed;
    private long granted;

    int setCost(int v, int c) {
        if (started || v < 1 || v > 16 || c < 0 || c > 32767) {
            return -1;
        }
        cost[v] = c;
        return 0;
    }

    int term(int coefficient, int literal) {
        boolean bad = started || coefficient < 1 || coefficient > 32767;
        bad |= literal == 0 || literal < -16 || literal > 16;
        bad |= constraints.size() == 20 || allTerms == 120;
        for (int[] term : open) {
            bad |= Math.abs((long) term[1]) == Math.abs((long) literal);
        }
        if (bad) {
            return -1;
        }
        open.add(new int[] {coefficient, literal});
        allTerms++;
        return 0;
    }

    int end(int bound) {
        if (started || bound < 0 || bound > 1073741824 || constraints.size() == 20) {
            return -1;
        }
        constraints.add(new Constraint(open, bound));
        open = new ArrayList<>();
        return constraints.size() - 1;
    }

    int run(int fuel) {
        if (fuel < 1 || fuel > 2000) {
            return -1;
        }
        started = true;
        while (fuel > 0 && state == 2) {
            fuel--;
            steps++;
            step();
        }
        return state;
    }

    int optimum() {
        return state != 1 ? -3 : best == null ? -1 : costOf(best);
    }

    int value(int v) {
        return v < 1 || v > 16 || best == null ? -1 : best[v];
    }

    int logSize() {
        return log.size();
    }

    int logAt(int i) {
        return i < 0 || i >= log.size() ? -9 : log.get(i);
    }

    int poke(int i, int word) {
        if (state != 1 || i < 0 || i > log.size() || i >= 400) {
            return -1;
        }
        if (i == log.size()) {
            log.add(word);
        } else {
            log.set(i, word);
        }
        judged = false;
        return 0;
    }

    int cut(int size) {
        if (state != 1 || size < 0 || size > log.size()) {
            return -1;
        }
        log.subList(size, log.size()).clear();
        judged = false;
        return 0;
    }

    int check(int fuel) {
        if (state != 1) {
            return -3;
        }
        if (fuel < 1 || fuel > 2000) {
            return -1;
        }
        if (!judged) {
            judge();
        }
        granted += fuel;
        return granted >= needed ? verdict : 2;
    }

    int steps() {
        return steps;
    }

    private static boolean isTrue(int literal, int[] values) {
        return values[Math.abs(literal)] == (literal > 0 ? 1 : 0);
    }

    private static boolean isSet(int literal, int[] values) {
        return values[Math.abs(literal)] >= 0;
    }

    private int costOf(int[] values) {
        int sum = 0;
        for (int v = 1; v <= 16; v++) {
            sum += values[v] == 1 ? cost[v] : 0;
        }
        return sum;
    }

    private List<Constraint> withLimit(boolean limited, int limit) {
        List<Constraint> all = new ArrayList<>(constraints);
        List<int[]> terms = new ArrayList<>();
        long sum = 0;
        for (int v = 1; v <= 16; v++) {
            if (cost[v] > 0) {
                terms.add(new int[] {cost[v], -v});
                sum += cost[v];
            }
        }
        if (limited) {
            all.add(new Constraint(terms, sum - limit));
        }
        return all;
    }

    private static long slack(Constraint constraint, int[] values) {
        long slack = -constraint.bound();
        for (int[] term : constraint.terms()) {
            slack += isTrue(-term[1], values) ? 0 : term[0];
        }
        return slack;
    }

    private static boolean someBroken(List<Constraint> all, int[] values) {
        return all.stream().anyMatch(constraint -> slack(constraint, values) < 0);
    }

    private static int[] firstForced(List<Constraint> all, int[] values) {
        for (Constraint constraint : all) {
            for (int[] term : constraint.terms()) {
                if (!isSet(term[1], values) && term[0] > slack(constraint, values)) {
                    return term;
                }
            }
        }
        return NO_TERM;
    }

    private void step() {
        int[] values = new int[17];
        Arrays.fill(values, -1);
        trail.forEach(entry -> values[entry[0]] = entry[1]);
        List<Constraint> all = withLimit(best != null, best == null ? 0 : costOf(best) - 1);
        int[] forced = firstForced(all, values);
        int least = 1;
        while (least <= 16 && values[least] >= 0) {
            least++;
        }
        if (someBroken(all, values)) {
            back();
        } else if (forced != NO_TERM) {
            trail.add(new int[] {Math.abs(forced[1]), forced[1] > 0 ? 1 : 0, 0});
        } else if (least == 17) {
            best = values;
        } else if (logged(least)) {
            trail.add(new int[] {least, 0, 1});
        }
    }

    private void back() {
        if (!logged(0)) {
            return;
        }
        while (!trail.isEmpty() && trail.get(trail.size() - 1)[2] == 0) {
            trail.remove(trail.size() - 1);
        }
        if (!trail.isEmpty()) {
            trail.set(trail.size() - 1, new int[] {trail.get(trail.size() - 1)[0], 1, 0});
            return;
        }
        int ones = 0;
        for (int v = 1; v <= 16 && best != null; v++) {
            ones += best[v] << (v - 1);
        }
        if (logged(best == null ? -1 : costOf(best)) && logged(ones)) {
            state = 1;
        }
    }

    private boolean logged(int word) {
        if (log.size() == 400) {
            state = -2;
            return false;
        }
        log.add(word);
        return true;
    }

    /** The verdict on the whole log, and how many words have to be read before it is known. */
    private void judge() {
        judged = true;
        granted = 0;
        needed = 0;
        verdict = 0;
        if (log.size() < 3 || !claimHolds()) {
            return;
        }
        int claim = log.get(log.size() - 2);
        int[] nothing = new int[17];
        Arrays.fill(nothing, -1);
        int behind = tree(0, nothing, false, withLimit(claim != -1, claim - 1));
        verdict = behind == log.size() - 2 ? 1 : 0;
    }

    private boolean claimHolds() {
        int claim = log.get(log.size() - 2);
        int[] values = new int[17];
        for (int v = 1; v <= 16; v++) {
            values[v] = log.get(log.size() - 1) >> (v - 1) & 1;
        }
        return claim == -1 || !someBroken(constraints, values) && costOf(values) == claim;
    }

    /** Where the words behind the tree at this place begin, -1 when it is none. */
    private int tree(int at, int[] before, boolean brokenBefore, List<Constraint> all) {
        if (at >= log.size() - 2) {
            return -1;
        }
        int[] values = before.clone();
        while (!someBroken(all, values) && firstForced(all, values) != NO_TERM) {
            int literal = firstForced(all, values)[1];
            values[Math.abs(literal)] = literal > 0 ? 1 : 0;
        }
        boolean broken = brokenBefore || someBroken(all, values);
        needed++;
        int word = log.get(at);
        if (word == 0) {
            return broken ? at + 1 : -1;
        }
        if (word < 1 || word > 16) {
            return -1;
        }
        int next = at + 1;
        for (int value = 0; value <= 1 && next >= 0; value++) {
            int[] inside = values.clone();
            inside[word] = value;
            next = tree(next, inside, broken || values[word] == 1 - value, all);
        }
        return next;
    }

    /** Whether these variables fulfil all constraints; for a look at every assignment there is. */
    boolean fulfils(int ones) {
        int[] values = new int[17];
        for (int v = 1; v <= 16; v++) {
            values[v] = ones >> (v - 1) & 1;
        }
        return !someBroken(constraints, values);
    }

    int costOfOnes(int ones) {
        int sum = 0;
        for (int v = 1; v <= 16; v++) {
            sum += (ones >> (v - 1) & 1) * cost[v];
        }
        return sum;
    }
}
