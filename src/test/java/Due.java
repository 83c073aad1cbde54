/** Counts and prints the calls whose answer is not the one that is due. */
final class Due {
    private int wrong = 0;

    void is(String call, long want, long got) {
        if (got != want) {
            wrong++;
            System.out.println(call + " answered " + got + ", due is " + want);
        }
    }

    void holds(String what, boolean is) {
        is(what, 1, is ? 1 : 0);
    }

    int wrong() {
        return wrong;
    }

    /** Ends the program, with exit code 1 if an answer was not as due. */
    void finish() {
        System.out.println(wrong == 0 ? "all answers are as due" : wrong + " answers are not as due");
        System.exit(wrong == 0 ? 0 : 1);
    }
}
