/** Problems that several tests use, built and not yet searched. */
final class Problems {
    private Problems() {
    }

    /** Variables behind these are forced to 0 by a constraint. */
    static LeastCost withVariables(int free) {
        LeastCost x = new LeastCost();
        for (int v = free + 1; v <= 16; v++) {
            x.term(1, -v);
        }
        x.end(16 - free);
        return x;
    }

    /** 1 or 2 have to be 1; 1 costs 3, 2 costs 5. Its log is 1 0 0, and 3 and 1; it takes 21 steps. */
    static LeastCost oneOrTwo() {
        LeastCost x = withVariables(2);
        x.setCost(1, 3);
        x.setCost(2, 5);
        x.term(1, 1);
        x.term(1, 2);
        x.end(1);
        return x;
    }

    /** No cost; 1 has to be 1 and 0. */
    static LeastCost impossible() {
        LeastCost x = new LeastCost();
        x.term(1, 1);
        x.end(1);
        x.term(1, -1);
        x.end(1);
        return x;
    }

    /** At least the bound by these coefficients, and at most less than it by one: there is none. */
    static LeastCost contradiction(int bound, int... coefficients) {
        int free = coefficients.length;
        LeastCost x = withVariables(free);
        int sum = 0;
        for (int v = 1; v <= free; v++) {
            x.term(coefficients[v - 1], v);
            sum += coefficients[v - 1];
        }
        x.end(bound);
        for (int v = 1; v <= free; v++) {
            x.term(coefficients[v - 1], -v);
        }
        x.end(sum - bound + 1);
        return x;
    }

    /** All eight clauses over 1 .. 3: no variable alone breaks one, two of them do. */
    static LeastCost eightClauses() {
        LeastCost x = withVariables(3);
        for (int signs = 0; signs < 8; signs++) {
            for (int v = 1; v <= 3; v++) {
                x.term(1, (signs >> (v - 1) & 1) == 0 ? v : -v);
            }
            x.end(1);
        }
        return x;
    }

    /** So many of the variables 1 .. free have to be 1; each costs 1. */
    static LeastCost someOf(int bound, int free) {
        LeastCost x = withVariables(free);
        for (int v = 1; v <= free; v++) {
            x.setCost(v, 1);
            x.term(1, v);
        }
        x.end(bound);
        return x;
    }

    /**
     * A tree with 200 leaves, so that the last word of its log would be the 401st one: choices up to
     * 7 and nine forced ones where 1 is 0 and one of 2 .. 4 is 1 (56 leaves), up to 8 and eight forced
     * ones elsewhere (144 leaves). Its steps: 199 choices, 56 * 9 + 144 * 8 forced ones, 200 times back.
     */
    static LeastCost twoThousandSteps() {
        LeastCost x = new LeastCost();
        for (int sign = -1; sign <= 1; sign += 2) {
            for (int v = 2; v <= 4; v++) {
                forceFrom(8, x, 1, -v, sign * 7);
            }
            forceFrom(9, x, -1, sign * 8);
            forceFrom(9, x, 2, 3, 4, sign * 8);
        }
        x.term(1, -15);
        x.term(1, -16);
        x.end(1);
        return x;
    }

    /** When all of the literals are false, the variables from the first one on have to be 1. */
    private static void forceFrom(int first, LeastCost x, int... literals) {
        int count = 17 - first;
        for (int literal : literals) {
            x.term(count, literal);
        }
        for (int v = first; v <= 16; v++) {
            x.term(1, v);
        }
        x.end(count);
    }
}
