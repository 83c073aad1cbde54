/**
 * Sums of what holds that have to be great enough, costs of what is true, the least cost found by
 * a search in told steps, a log of it, and one who checks a log alone.
 */
public final class LeastCost {
    public static final int BAD = -1;
    public static final int NO_ROOM = -2;
    public static final int NOT_DONE = -3;
    public static final int MORE = 2;

    private static final int VARIABLES = 16;
    private static final int ALL_VARIABLES = (1 << VARIABLES) - 1;
    private static final int MOST_CONSTRAINTS = 20;
    private static final int MOST_TERMS = 120;
    private static final int MOST_WORDS = 400;
    private static final int MOST_FUEL = 2000;
    private static final int MOST_COST = 32767;
    private static final int MOST_COEFFICIENT = 32767;
    private static final int MOST_BOUND = 1073741824;

    private static final int OK = 0;
    private static final int DONE = 1;
    private static final int RIGHT = 1;
    private static final int WRONG = 0;
    private static final int NO_WORD = -9;

    /** The word that closes a tree. */
    private static final int CLOSED = 0;
    /** The cost that stands in the log when no assignment fulfils the constraints. */
    private static final int NO_COST = -1;
    /** Words behind the tree in a whole log: the claim and the variables. */
    private static final int WORDS_BEHIND_TREE = 2;
    /** Stands for a literal or a variable where there is none. */
    private static final int NONE = 0;
    /** Above twice all costs together, so that it neither breaks nor forces anything. */
    private static final int NO_LIMIT = 1 << 21;

    private final Problem problem;
    private final Log log;
    private final Search search;
    private final Checker checker;
    private boolean started;

    public LeastCost() {
        problem = new Problem();
        log = new Log();
        search = new Search(problem, log);
        checker = new Checker(problem, log);
        started = false;
    }

    public int setCost(int v, int cost) {
        if (started || !isVariable(v) || !isWithin(cost, 0, MOST_COST)) {
            return BAD;
        }
        problem.costs[v] = cost;
        return OK;
    }

    public int term(int coefficient, int literal) {
        if (started || !isWithin(coefficient, 1, MOST_COEFFICIENT) || !isVariable(variableOf(literal))) {
            return BAD;
        }
        return problem.addTerm(coefficient, literal) ? OK : BAD;
    }

    public int end(int bound) {
        if (started || !isWithin(bound, 0, MOST_BOUND)) {
            return BAD;
        }
        return problem.makeConstraint(bound);
    }

    public int run(int fuel) {
        if (!isWithin(fuel, 1, MOST_FUEL)) {
            return BAD;
        }
        started = true;
        return search.advance(fuel);
    }

    public int optimum() {
        return search.isDone() ? search.bestCost : NOT_DONE;
    }

    public int value(int v) {
        if (!isVariable(v) || search.bestCost == NO_COST) {
            return BAD;
        }
        return (search.bestOnes & bitOf(v)) != 0 ? 1 : 0;
    }

    public int logSize() {
        return log.size;
    }

    public int logAt(int i) {
        return log.wordAt(i);
    }

    public int poke(int i, int word) {
        if (!search.isDone() || !log.replace(i, word)) {
            return BAD;
        }
        checker.beginAnew();
        return OK;
    }

    public int cut(int size) {
        if (!search.isDone() || !log.shorten(size)) {
            return BAD;
        }
        checker.beginAnew();
        return OK;
    }

    public int check(int fuel) {
        if (!search.isDone()) {
            return NOT_DONE;
        }
        if (!isWithin(fuel, 1, MOST_FUEL)) {
            return BAD;
        }
        return checker.readOn(fuel);
    }

    public int steps() {
        return search.stepsMade;
    }

    private static boolean isWithin(int number, int least, int most) {
        return number >= least && number <= most;
    }

    private static boolean isVariable(int v) {
        return isWithin(v, 1, VARIABLES);
    }

    /** Of the least int it is no variable either: that one stays negative. */
    private static int variableOf(int literal) {
        return literal < 0 ? -literal : literal;
    }

    private static int bitOf(int v) {
        return 1 << (v - 1);
    }

    /** What an assignment may cost to be better than one of this cost. */
    private static int limitBelow(int cost) {
        return cost == NO_COST ? NO_LIMIT : cost - 1;
    }

    /** The variables that are set, those to 1 and those to 0: bit v - 1 for v. */
    private static final class Setting {
        private int ones;
        private int zeros;

        private void become(int newOnes, int newZeros) {
            ones = newOnes;
            zeros = newZeros;
        }

        private void makeTrue(int literal) {
            int bit = bitOf(variableOf(literal));
            if (literal > 0) {
                ones |= bit;
            } else {
                zeros |= bit;
            }
        }

        private int leastNotSet() {
            int set = ones | zeros;
            for (int v = 1; v <= VARIABLES; v++) {
                if ((set & bitOf(v)) == 0) {
                    return v;
                }
            }
            return NONE;
        }
    }

    /** The costs and the constraints; the terms of constraint c are firsts[c] .. firsts[c + 1] - 1. */
    private static final class Problem {
        private final int[] costs = new int[VARIABLES + 1];
        private final int[] coefficients = new int[MOST_TERMS];
        private final int[] literals = new int[MOST_TERMS];
        private final int[] bits = new int[MOST_TERMS];
        private final int[] firsts = new int[MOST_CONSTRAINTS + 1];
        private final int[] bounds = new int[MOST_CONSTRAINTS];
        private int terms;
        private int constraints;
        /** The variables of the constraint that is being made. */
        private int taken;

        private boolean addTerm(int coefficient, int literal) {
            int bit = bitOf(variableOf(literal));
            if (constraints >= MOST_CONSTRAINTS || terms >= MOST_TERMS || (taken & bit) != 0) {
                return false;
            }
            coefficients[terms] = coefficient;
            literals[terms] = literal;
            bits[terms] = bit;
            terms++;
            taken |= bit;
            return true;
        }

        /** The number of the constraint, BAD if there are too many. */
        private int makeConstraint(int bound) {
            if (constraints >= MOST_CONSTRAINTS) {
                return BAD;
            }
            int number = constraints;
            bounds[number] = bound;
            constraints++;
            firsts[constraints] = terms;
            taken = 0;
            return number;
        }

        private int costOf(int ones) {
            int sum = 0;
            for (int v = 1; v <= VARIABLES; v++) {
                sum += (ones >> (v - 1) & 1) * costs[v];
            }
            return sum;
        }

        private int slackOf(int constraint, Setting setting) {
            int sum = 0;
            for (int t = firsts[constraint]; t < firsts[constraint + 1]; t++) {
                int against = literals[t] > 0 ? setting.zeros : setting.ones;
                if ((against & bits[t]) == 0) {
                    sum += coefficients[t];
                }
            }
            return sum - bounds[constraint];
        }

        private int limitSlack(Setting setting, int limit) {
            return limit - costOf(setting.ones);
        }

        private boolean isBroken(Setting setting, int limit) {
            for (int c = 0; c < constraints; c++) {
                if (slackOf(c, setting) < 0) {
                    return true;
                }
            }
            return limitSlack(setting, limit) < 0;
        }

        /** The first literal that is forced, NONE if there is none. */
        private int forcedLiteral(Setting setting, int limit) {
            for (int c = 0; c < constraints; c++) {
                int literal = forcedBy(c, setting);
                if (literal != NONE) {
                    return literal;
                }
            }
            return forcedByLimit(setting, limit);
        }

        private int forcedBy(int constraint, Setting setting) {
            int slack = slackOf(constraint, setting);
            int set = setting.ones | setting.zeros;
            for (int t = firsts[constraint]; t < firsts[constraint + 1]; t++) {
                if (coefficients[t] > slack && (set & bits[t]) == 0) {
                    return literals[t];
                }
            }
            return NONE;
        }

        private int forcedByLimit(Setting setting, int limit) {
            int slack = limitSlack(setting, limit);
            int set = setting.ones | setting.zeros;
            for (int v = 1; v <= VARIABLES; v++) {
                if (costs[v] > 0 && costs[v] > slack && (set & bitOf(v)) == 0) {
                    return -v;
                }
            }
            return NONE;
        }
    }

    /** The words that the search wrote, or that were poked. */
    private static final class Log {
        private final int[] words = new int[MOST_WORDS];
        private int size;

        private boolean has(int i) {
            return i >= 0 && i < size;
        }

        private int wordAt(int i) {
            return has(i) ? words[i] : NO_WORD;
        }

        private boolean append(int word) {
            if (size >= MOST_WORDS) {
                return false;
            }
            words[size] = word;
            size++;
            return true;
        }

        private boolean replace(int i, int word) {
            if (i == size) {
                return append(word);
            }
            if (!has(i)) {
                return false;
            }
            words[i] = word;
            return true;
        }

        private boolean shorten(int newSize) {
            if (!isWithin(newSize, 0, size)) {
                return false;
            }
            size = newSize;
            return true;
        }
    }

    /** The search; it keeps only choices that are 0, as one that became 1 is never gone back to. */
    private static final class Search {
        private final Problem problem;
        private final Log log;
        private final Setting setting = new Setting();
        private final int[] choices = new int[VARIABLES];
        private final int[] onesBefore = new int[VARIABLES];
        private final int[] zerosBefore = new int[VARIABLES];
        private int depth;
        private int bestCost = NO_COST;
        private int bestOnes;
        private int stepsMade;
        /** MORE, DONE or NO_ROOM. */
        private int state = MORE;

        private Search(Problem problem, Log log) {
            this.problem = problem;
            this.log = log;
        }

        private boolean isDone() {
            return state == DONE;
        }

        private int advance(int fuel) {
            for (int n = 0; n < fuel && state == MORE; n++) {
                step();
            }
            return state;
        }

        private void step() {
            stepsMade++;
            int limit = limitBelow(bestCost);
            if (problem.isBroken(setting, limit)) {
                goBack();
                return;
            }
            int literal = problem.forcedLiteral(setting, limit);
            if (literal != NONE) {
                setting.makeTrue(literal);
                return;
            }
            int v = setting.leastNotSet();
            if (v != NONE) {
                choose(v);
            } else {
                keepBest();
            }
        }

        private void goBack() {
            if (!writes(CLOSED)) {
                return;
            }
            if (depth == 0) {
                finish();
                return;
            }
            depth--;
            setting.become(onesBefore[depth], zerosBefore[depth]);
            setting.makeTrue(choices[depth]);
        }

        private void finish() {
            if (writes(bestCost) && writes(bestOnes)) {
                state = DONE;
            }
        }

        private void keepBest() {
            bestOnes = setting.ones;
            bestCost = problem.costOf(bestOnes);
        }

        private void choose(int v) {
            if (depth >= VARIABLES || !writes(v)) {
                return;
            }
            choices[depth] = v;
            onesBefore[depth] = setting.ones;
            zerosBefore[depth] = setting.zeros;
            depth++;
            setting.makeTrue(-v);
        }

        private boolean writes(int word) {
            boolean fits = log.append(word);
            if (!fits) {
                state = NO_ROOM;
            }
            return fits;
        }
    }

    /** The check of a log, word by word; second trees wait in rows until the first ones are closed. */
    private static final class Checker {
        private final Problem problem;
        private final Log log;
        private final Setting setting = new Setting();
        private final int[] waitingOnes = new int[MOST_WORDS];
        private final int[] waitingZeros = new int[MOST_WORDS];
        private final boolean[] waitingBroken = new boolean[MOST_WORDS];
        private int waiting;
        /** A constraint is broken in the tree that is being read, or it is as if one were. */
        private boolean broken;
        private int limit;
        private int position;
        private int treeSize;
        private boolean begun;
        /** MORE, RIGHT or WRONG. */
        private int verdict = MORE;

        private Checker(Problem problem, Log log) {
            this.problem = problem;
            this.log = log;
        }

        private void beginAnew() {
            begun = false;
            verdict = MORE;
        }

        private int readOn(int fuel) {
            if (!begun) {
                begun = true;
                begin();
            }
            for (int n = 0; n < fuel && verdict == MORE; n++) {
                setWhatIsForced();
                readWord();
            }
            return verdict;
        }

        private void begin() {
            treeSize = log.size - WORDS_BEHIND_TREE;
            if (treeSize < 1 || !claimHolds()) {
                verdict = WRONG;
                return;
            }
            limit = limitBelow(claim());
            position = 0;
            waiting = 0;
            enterTree(0, 0, false);
        }

        private int claim() {
            return log.wordAt(treeSize);
        }

        private boolean claimHolds() {
            if (claim() == NO_COST) {
                return true;
            }
            int ones = log.wordAt(treeSize + 1) & ALL_VARIABLES;
            setting.become(ones, ~ones & ALL_VARIABLES);
            return !problem.isBroken(setting, NO_LIMIT) && problem.costOf(ones) == claim();
        }

        private void readWord() {
            int word = log.wordAt(position);
            position++;
            if (word == CLOSED) {
                closeTree();
            } else if (isVariable(word)) {
                splitTree(word);
            } else {
                verdict = WRONG;
            }
            if (verdict == MORE && position >= treeSize) {
                verdict = WRONG;
            }
        }

        private void closeTree() {
            if (!broken) {
                verdict = WRONG;
            } else if (waiting == 0) {
                verdict = position == treeSize ? RIGHT : WRONG;
            } else {
                waiting--;
                enterTree(waitingOnes[waiting], waitingZeros[waiting], waitingBroken[waiting]);
            }
        }

        private void splitTree(int v) {
            if (waiting >= MOST_WORDS) {
                verdict = WRONG;
                return;
            }
            int bit = bitOf(v);
            waitingOnes[waiting] = setting.ones | bit;
            waitingZeros[waiting] = setting.zeros;
            waitingBroken[waiting] = broken || (setting.zeros & bit) != 0;
            waiting++;
            enterTree(setting.ones, setting.zeros | bit, broken || (setting.ones & bit) != 0);
        }

        private void enterTree(int ones, int zeros, boolean brokenAlready) {
            setting.become(ones, zeros);
            broken = brokenAlready;
        }

        private void setWhatIsForced() {
            // each round but the last one sets one more variable
            for (int n = 0; n <= VARIABLES && !broken; n++) {
                broken = problem.isBroken(setting, limit);
                int literal = broken ? NONE : problem.forcedLiteral(setting, limit);
                if (literal == NONE) {
                    return;
                }
                setting.makeTrue(literal);
            }
        }
    }
}
