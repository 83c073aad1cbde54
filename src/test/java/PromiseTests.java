/** Each promise of the document: ordinary calls, the edges that it names, and wrong arguments. */
public final class PromiseTests {
    private static final int BAD = -1;
    private static final int NO_ROOM = -2;
    private static final int NOT_DONE = -3;
    private static final int MORE = 2;
    private static final int NO_WORD = -9;
    private static final int LEAST = Integer.MIN_VALUE;
    private static final int MOST = Integer.MAX_VALUE;

    private static final Due due = new Due();

    public static void main(String[] args) {
        aNewObject();
        costsAreSet();
        costsThatAreBad();
        termsAreTaken();
        termsThatAreBad();
        constraintsAreMade();
        constraintsThatAreBad();
        nothingIsBuiltBehindTheFirstRun();
        theSearchGoesInToldSteps();
        theFirstForcedLiteralIsSet();
        theLimitForcesBehindTheConstraints();
        fuelHasAnEnd();
        termsOfNoConstraintAreGone();
        theOptimumIsToldWhenDone();
        valuesOfTheBest();
        aLogThatIsJustShortEnough();
        aLogThatIsTooLong();
        wordsOfTheLog();
        wordsArePoked();
        wordsAreCut();
        theCheckGoesWordByWord();
        theCheckWantsASearchThatIsDone();
        theCheckBeginsAnew();
        claimsThatAreWrong();
        treesThatAreWrong();
        treesThatAreRight();
        theDeepestTree();
        costsAndBoundsAtTheirMost();
        due.finish();
    }

    private static void aNewObject() {
        LeastCost x = new LeastCost();
        due.is("1: steps()", 0, x.steps());
        due.is("1: logSize()", 0, x.logSize());
        due.is("1: optimum()", NOT_DONE, x.optimum());
        due.is("1: value(1)", BAD, x.value(1));
        due.is("1: run(17)", MORE, x.run(17));
        due.is("1: no costs: value(16) of all 0", 0, x.value(16));
        due.is("1: run(17)", 1, x.run(17));
        due.is("1: no constraints: optimum()", 0, x.optimum());
        due.is("1: steps()", 34, x.steps());
        due.is("1: check(2000)", 1, x.check(2000));
        due.is("1: the first constraint's number", 0, new LeastCost().end(7));
    }

    private static void log(String where, LeastCost x, int... words) {
        due.is(where + ": logSize()", words.length, x.logSize());
        for (int i = 0; i < words.length; i++) {
            due.is(where + ": logAt(" + i + ")", words[i], x.logAt(i));
        }
        due.is(where + ": logAt(size)", NO_WORD, x.logAt(words.length));
    }

    /** Writes the words as the log of a search that is done. */
    private static void write(String where, LeastCost x, int... words) {
        due.is(where + ": cut(0)", 0, x.cut(0));
        for (int i = 0; i < words.length; i++) {
            due.is(where + ": poke(" + i + ", " + words[i] + ")", 0, x.poke(i, words[i]));
        }
    }

    private static void costsAreSet() {
        LeastCost x = Problems.withVariables(0);
        due.is("2: setCost(1, 0)", 0, x.setCost(1, 0));
        due.is("2: setCost(16, 32767)", 0, x.setCost(16, 32767));
        x.term(1, 16);
        x.end(0);
        x.run(2000);
        due.is("2: a cost that is not needed", 0, x.optimum());
        LeastCost y = new LeastCost();
        for (int v = 1; v <= 16; v++) {
            due.is("2: setCost(" + v + ", 9)", 0, y.setCost(v, 9));
            due.is("2: setCost(" + v + ", v)", 0, y.setCost(v, v));
            y.term(1, v);
        }
        y.end(16);
        y.run(2000);
        due.is("2: the later cost counts", 136, y.optimum());
    }

    private static void costsThatAreBad() {
        LeastCost x = Problems.oneOrTwo();
        int[][] wrong = {{0, 1}, {17, 1}, {-1, 1}, {LEAST, 1}, {MOST, 1}, {1, -1}, {1, 32768}, {1, LEAST}, {1, MOST}};
        for (int[] call : wrong) {
            due.is("2: setCost(" + call[0] + ", " + call[1] + ")", BAD, x.setCost(call[0], call[1]));
        }
        x.run(2000);
        due.is("2: the costs stay as they were", 3, x.optimum());
    }

    private static void termsAreTaken() {
        LeastCost x = new LeastCost();
        for (int v = 1; v <= 16; v++) {
            int literal = v % 2 == 0 ? v : -v;
            due.is("3: term(32767, " + literal + ")", 0, x.term(32767, literal));
            due.is("3: that variable again", BAD, x.term(1, literal));
            due.is("3: its other literal", BAD, x.term(1, -literal));
        }
        due.is("3: end(16 * 32767)", 0, x.end(16 * 32767));
        due.is("3: in another constraint", 0, x.term(1, 1));
        x.end(0);
        due.is("3: run(2000)", 1, x.run(2000));
        for (int v = 1; v <= 16; v++) {
            due.is("3: value(" + v + ")", 1 - v % 2, x.value(v));
        }
    }

    private static void termsThatAreBad() {
        LeastCost x = new LeastCost();
        int[][] wrong = {{0, 1}, {-1, 1}, {32768, 1}, {LEAST, 1}, {MOST, 1}, {1, 0}, {1, 17}, {1, -17}, {1, LEAST},
            {1, LEAST + 1}, {1, MOST}};
        for (int[] call : wrong) {
            due.is("3: term(" + call[0] + ", " + call[1] + ")", BAD, x.term(call[0], call[1]));
        }
        for (int t = 0; t < 119; t++) {
            due.is("3: term " + t, 0, x.term(1, 1 + t % 16));
            if (t % 16 == 15) {
                x.end(0);
            }
        }
        due.is("3: a wrong one takes no room", BAD, x.term(1, 17));
        due.is("3: term 119", 0, x.term(1, 8));
        due.is("3: term 120", BAD, x.term(1, 9));
        due.is("3: its constraint", 7, x.end(0));
        due.is("3: term 120 in another constraint", BAD, x.term(1, 9));
        due.is("3: a constraint without terms", 8, x.end(0));
    }

    private static void constraintsAreMade() {
        LeastCost x = new LeastCost();
        for (int c = 0; c < 19; c++) {
            due.is("4: end(0)", c, x.end(0));
        }
        due.is("4: a term of the last one", 0, x.term(1, 1));
        due.is("4: the last one", 19, x.end(1));
        due.is("3: a term of one too many", BAD, x.term(1, 1));
        due.is("4: one too many", BAD, x.end(0));
        x.run(2000);
        due.is("4: the last one counts", 1, x.value(1));
        LeastCost y = new LeastCost();
        due.is("4: without terms, end(1)", 0, y.end(1));
        due.is("4: it is broken", 1, y.run(1));
        log("4", y, 0, -1, 0);
    }

    private static void constraintsThatAreBad() {
        LeastCost x = new LeastCost();
        x.term(1, 3);
        for (int bound : new int[] {-1, LEAST, 1073741825, MOST}) {
            due.is("4: end(" + bound + ")", BAD, x.end(bound));
        }
        due.is("4: the term is still there", BAD, x.term(1, 3));
        due.is("4: end(1073741824)", 0, x.end(1073741824));
        due.is("4: run(1)", 1, x.run(1));
        due.is("4: optimum()", -1, x.optimum());
    }

    private static void nothingIsBuiltBehindTheFirstRun() {
        LeastCost x = Problems.oneOrTwo();
        due.is("5: run(0)", BAD, x.run(0));
        due.is("5: run(2001)", BAD, x.run(2001));
        due.is("2: behind a run that is BAD", 0, x.setCost(1, 3));
        due.is("3: behind a run that is BAD", 0, x.term(1, 1));
        due.is("4: behind a run that is BAD", 2, x.end(0));
        due.is("5: run(1)", MORE, x.run(1));
        due.is("2: behind the first run", BAD, x.setCost(1, 1));
        due.is("3: behind the first run", BAD, x.term(1, 1));
        due.is("4: behind the first run", BAD, x.end(0));
        due.is("5: run(2000)", 1, x.run(2000));
        due.is("2: when done", BAD, x.setCost(1, 1));
        due.is("3: when done", BAD, x.term(1, 1));
        due.is("4: when done", BAD, x.end(0));
        due.is("6: optimum()", 3, x.optimum());
    }

    private static void theSearchGoesInToldSteps() {
        LeastCost x = Problems.oneOrTwo();
        due.is("5: 3 .. 16 are forced", MORE, x.run(14));
        log("5", x);
        due.is("5: a choice", MORE, x.run(1));
        log("5", x, 1);
        due.is("5: 2 is forced", MORE, x.run(1));
        log("5", x, 1);
        due.is("7: no best one yet", BAD, x.value(1));
        due.is("5: the first best one", MORE, x.run(1));
        log("5", x, 1);
        due.is("7: value(1)", 0, x.value(1));
        due.is("7: value(2)", 1, x.value(2));
        due.is("6: optimum()", NOT_DONE, x.optimum());
        due.is("5: the limit is broken, 1 becomes 1", MORE, x.run(1));
        log("5", x, 1, 0);
        due.is("5: -2 is forced by the limit", MORE, x.run(1));
        due.is("7: still the old one", 1, x.value(2));
        due.is("5: a better one", MORE, x.run(1));
        due.is("7: value(1)", 1, x.value(1));
        due.is("7: value(2)", 0, x.value(2));
        log("5", x, 1, 0);
        due.is("13: steps()", 20, x.steps());
        due.is("6: optimum()", NOT_DONE, x.optimum());
        due.is("5: done", 1, x.run(1));
        log("5", x, 1, 0, 0, 3, 1);
        due.is("13: steps()", 21, x.steps());
        due.is("5: done already", 1, x.run(2000));
        due.is("13: no step more", 21, x.steps());
        log("5", x, 1, 0, 0, 3, 1);
    }

    /** By constraints, then terms: what is broken behind it shows in the steps. */
    private static void theFirstForcedLiteralIsSet() {
        LeastCost x = Problems.withVariables(3);
        x.term(2, 3);
        x.term(5, -2);
        x.term(1, 1);
        x.end(7);
        due.is("5: 13 forced ones before", MORE, x.run(13));
        due.is("5: 3 and -2 are forced, 1 is a choice", MORE, x.run(3));
        log("5", x, 1);
        due.is("5: the best one", MORE, x.run(1));
        due.is("7: value(1)", 0, x.value(1));
        due.is("7: value(2)", 0, x.value(2));
        due.is("7: value(3)", 1, x.value(3));
        LeastCost y = new LeastCost();
        y.term(1, -2);
        y.term(1, 1);
        y.end(2);
        y.term(1, 2);
        y.end(1);
        due.is("5: broken behind the first forced one", MORE, y.run(1));
        due.is("5: done", 1, y.run(1));
        due.is("13: steps()", 2, y.steps());
        log("5", y, 0, -1, 0);
    }

    /** A constraint and the limit both force a literal of 3: the constraint's is set. */
    private static void theLimitForcesBehindTheConstraints() {
        LeastCost x = Problems.withVariables(3);
        x.setCost(1, 2);
        x.setCost(2, 3);
        x.setCost(3, 1);
        x.term(1, 1);
        x.term(1, 2);
        x.end(1);
        x.term(1, -1);
        x.term(1, 3);
        x.end(1);
        due.is("5: run(2000)", 1, x.run(2000));
        // 1 is 0: 2 is forced, 3 is a choice, cost 3; 3 is 1: the limit is broken; 1 is 1: 3 is
        // forced by the constraint (cost 3), so that the limit 2 is broken
        log("5", x, 1, 3, 0, 0, 0, 3, 2);
        due.is("13: steps()", 13 + 3 + 1 + 1 + 1 + 1 + 1, x.steps());
        due.is("12: check(2000)", 1, x.check(2000));
    }

    private static void fuelHasAnEnd() {
        LeastCost x = Problems.oneOrTwo();
        for (int fuel : new int[] {0, -1, 2001, LEAST, MOST}) {
            due.is("5: run(" + fuel + ")", BAD, x.run(fuel));
        }
        due.is("13: steps()", 0, x.steps());
        due.is("5: run(20)", MORE, x.run(20));
        due.is("5: run(1)", 1, x.run(1));
        due.is("5: run(2001) when done", BAD, x.run(2001));
        due.is("13: steps()", 21, x.steps());
    }

    private static void termsOfNoConstraintAreGone() {
        LeastCost x = Problems.oneOrTwo();
        due.is("3: term(9, -1)", 0, x.term(9, -1));
        due.is("3: term(9, -2)", 0, x.term(9, -2));
        due.is("5: run(2000)", 1, x.run(2000));
        due.is("4: end(18) makes none of them", BAD, x.end(18));
        due.is("6: optimum()", 3, x.optimum());
        due.is("12: check(2000)", 1, x.check(2000));
    }

    private static void theOptimumIsToldWhenDone() {
        LeastCost x = Problems.impossible();
        due.is("6: before", NOT_DONE, x.optimum());
        due.is("5: run(1)", MORE, x.run(1));
        due.is("6: on the way", NOT_DONE, x.optimum());
        due.is("5: run(1)", 1, x.run(1));
        due.is("6: there is none", -1, x.optimum());
        due.is("7: there is none", BAD, x.value(1));
        log("5", x, 0, -1, 0);
        LeastCost y = Problems.oneOrTwo();
        y.run(2000);
        y.poke(3, 77);
        y.poke(4, 2);
        y.cut(1);
        due.is("6: whatever the log says", 3, y.optimum());
        due.is("7: whatever the log says", 1, y.value(1));
    }

    private static void valuesOfTheBest() {
        LeastCost x = Problems.oneOrTwo();
        x.run(2000);
        due.is("7: value(1)", 1, x.value(1));
        for (int v = 2; v <= 16; v++) {
            due.is("7: value(" + v + ")", 0, x.value(v));
        }
        for (int v : new int[] {0, -1, 17, 33, LEAST, MOST}) {
            due.is("7: value(" + v + ")", BAD, x.value(v));
        }
    }

    private static void aLogThatIsJustShortEnough() {
        LeastCost x = Problems.contradiction(11, 1, 3, 3, 2, 3, 1, 1, 2, 2, 3, 2);
        due.is("5: run(932)", MORE, x.run(932));
        due.is("8: logSize()", 396, x.logSize());
        due.is("5: run(1)", 1, x.run(1));
        due.is("8: logSize()", 399, x.logSize());
        due.is("6: optimum()", -1, x.optimum());
        due.is("12: check(396)", MORE, x.check(396));
        due.is("12: check(1)", 1, x.check(1));
        due.is("10: poke(400, 0)", BAD, x.poke(400, 0));
        due.is("10: poke(399, 5)", 0, x.poke(399, 5));
        due.is("8: logSize()", 400, x.logSize());
        due.is("9: logAt(399)", 5, x.logAt(399));
        due.is("10: poke(400, 0)", BAD, x.poke(400, 0));
        due.is("8: logSize()", 400, x.logSize());
        due.is("9: logAt(400)", NO_WORD, x.logAt(400));
        due.is("12: claim 0, which costs nothing, but is not fulfilled", 0, x.check(2000));
    }

    private static void aLogThatIsTooLong() {
        LeastCost x = Problems.contradiction(12, 3, 3, 1, 1, 1, 3, 3, 3, 2, 3, 2);
        due.is("5: run(1012)", MORE, x.run(1012));
        due.is("8: logSize()", 398, x.logSize());
        due.is("5: the last word has no room", NO_ROOM, x.run(1));
        due.is("13: steps()", 1013, x.steps());
        due.is("8: logSize()", 400, x.logSize());
        due.is("9: logAt(398)", 0, x.logAt(398));
        due.is("9: logAt(399)", -1, x.logAt(399));
        due.is("5: for good", NO_ROOM, x.run(2000));
        due.is("5: run(0)", BAD, x.run(0));
        due.is("13: steps()", 1013, x.steps());
        due.is("6: optimum()", NOT_DONE, x.optimum());
        due.is("7: value(1)", BAD, x.value(1));
        due.is("10: poke(0, 1)", BAD, x.poke(0, 1));
        due.is("11: cut(0)", BAD, x.cut(0));
        due.is("12: check(1)", NOT_DONE, x.check(1));
        due.is("2: setCost(1, 1)", BAD, x.setCost(1, 1));
        due.is("8: logSize()", 400, x.logSize());
    }

    private static void wordsOfTheLog() {
        LeastCost x = Problems.oneOrTwo();
        due.is("9: logAt(0)", NO_WORD, x.logAt(0));
        x.run(2000);
        log("9", x, 1, 0, 0, 3, 1);
        for (int i : new int[] {-1, 5, 399, 400, LEAST, MOST}) {
            due.is("9: logAt(" + i + ")", NO_WORD, x.logAt(i));
        }
    }

    private static void wordsArePoked() {
        LeastCost x = Problems.oneOrTwo();
        x.run(20);
        due.is("10: before it is done", BAD, x.poke(0, 2));
        due.is("10: before it is done, behind", BAD, x.poke(2, 2));
        log("10", x, 1, 0);
        x.run(1);
        due.is("10: poke(0, 2)", 0, x.poke(0, 2));
        due.is("10: poke(4, least)", 0, x.poke(4, LEAST));
        due.is("10: poke(5, most)", 0, x.poke(5, MOST));
        for (int i : new int[] {-1, 7, 400, LEAST, MOST}) {
            due.is("10: poke(" + i + ", 1)", BAD, x.poke(i, 1));
        }
        log("10", x, 2, 0, 0, 3, LEAST, MOST);
        for (int i = 6; i < 400; i++) {
            due.is("10: poke(" + i + ", -9)", 0, x.poke(i, -9));
        }
        due.is("10: poke(400, 1)", BAD, x.poke(400, 1));
        due.is("8: logSize()", 400, x.logSize());
        due.is("10: poke(399, 8)", 0, x.poke(399, 8));
        due.is("9: logAt(399)", 8, x.logAt(399));
    }

    private static void wordsAreCut() {
        LeastCost x = Problems.oneOrTwo();
        x.run(20);
        due.is("11: before it is done", BAD, x.cut(1));
        log("11", x, 1, 0);
        x.run(1);
        for (int size : new int[] {-1, 6, 400, LEAST, MOST}) {
            due.is("11: cut(" + size + ")", BAD, x.cut(size));
        }
        due.is("11: cut(5)", 0, x.cut(5));
        log("11", x, 1, 0, 0, 3, 1);
        due.is("11: cut(2)", 0, x.cut(2));
        log("11", x, 1, 0);
        due.is("11: cut(3)", BAD, x.cut(3));
        due.is("10: poke(3, 1)", BAD, x.poke(3, 1));
        due.is("11: cut(0)", 0, x.cut(0));
        log("11", x);
        due.is("10: poke(0, 4)", 0, x.poke(0, 4));
        log("11", x, 4);
        due.is("5: still done", 1, x.run(1));
    }

    private static void theCheckGoesWordByWord() {
        LeastCost x = Problems.oneOrTwo();
        x.run(2000);
        due.is("12: check(1)", MORE, x.check(1));
        due.is("12: check(0)", BAD, x.check(0));
        due.is("12: check(1)", MORE, x.check(1));
        due.is("12: check(1)", 1, x.check(1));
        due.is("12: check(1)", 1, x.check(1));
        due.is("12: check(2001)", BAD, x.check(2001));
        write("12", x, 1, 1, 0, 0, 17, 0, 3, 1);
        due.is("12: check(4)", MORE, x.check(4));
        due.is("12: 17 is no variable", 0, x.check(1));
        due.is("12: the same again", 0, x.check(2000));
        write("12", x, 0, 0, 0, 3, 1);
        due.is("12: it goes on behind", 0, x.check(1));
        write("12", x, 1, 0, 2, 3, 1);
        due.is("12: check(2)", MORE, x.check(2));
        due.is("12: all is read, it is not closed", 0, x.check(1));
    }

    private static void theCheckWantsASearchThatIsDone() {
        LeastCost x = Problems.oneOrTwo();
        due.is("12: before", NOT_DONE, x.check(1));
        x.run(20);
        due.is("12: on the way", NOT_DONE, x.check(2000));
        x.run(1);
        for (int fuel : new int[] {0, -1, 2001, LEAST, MOST}) {
            due.is("12: check(" + fuel + ")", BAD, x.check(fuel));
        }
        due.is("12: check(2)", MORE, x.check(2));
        due.is("12: check(1)", 1, x.check(1));
    }

    private static void theCheckBeginsAnew() {
        LeastCost x = Problems.oneOrTwo();
        x.run(2000);
        due.is("12: check(2)", MORE, x.check(2));
        due.is("10: poke(0, 2)", 0, x.poke(0, 2));
        due.is("10: anew", MORE, x.check(2));
        due.is("10: a BAD one changes nothing", BAD, x.poke(9, 2));
        due.is("11: a BAD one changes nothing", BAD, x.cut(9));
        due.is("10: the check goes on", 1, x.check(1));
        due.is("11: cut(5)", 0, x.cut(5));
        due.is("11: anew", MORE, x.check(2));
        due.is("11: cut(4)", 0, x.cut(4));
        due.is("11: the claim is 0, the variables are 3", 0, x.check(1));
        due.is("10: poke(4, 1)", 0, x.poke(4, 1));
        due.is("10: right again", 1, x.check(3));
    }

    private static void claimsThatAreWrong() {
        LeastCost x = Problems.oneOrTwo();
        x.run(2000);
        write("12: no words", x);
        due.is("12: no words", 0, x.check(1));
        write("12: one word", x, -1);
        due.is("12: one word", 0, x.check(1));
        write("12: no tree", x, 3, 1);
        due.is("12: no tree", 0, x.check(1));
        int[][] wrong = {{3, 0}, {0, 0}, {5, 1}, {2, 1}, {-2, 1}, {LEAST, 1}, {MOST, 1}, {3, 2}, {3, 5}, {-1, 1}};
        for (int[] claim : wrong) {
            write("12", x, 1, 0, 0, claim[0], claim[1]);
            due.is("12: claim " + claim[0] + ", variables " + claim[1], 0, x.check(2000));
        }
        write("12", x, 1, 0, 0, 3, 0x7fff0001);
        due.is("12: bits above the lowest 16 do not count", 1, x.check(2000));
        write("12", x, 1, 0, 0, 3, 0x80000001);
        due.is("12: the sign does not count", 1, x.check(2000));
        write("12", x, 1, 0, 0, 3, 0x8001);
        due.is("12: 16 has to be 0", 0, x.check(2000));
        write("12", x, 1, 0, 0, 5, 2);
        due.is("12: fulfilled, but not the least", 0, x.check(2000));
        LeastCost y = Problems.impossible();
        y.run(2000);
        write("12", y, 0, -1, 12345);
        due.is("12: claim -1, any variables", 1, y.check(2000));
        write("12", y, 0, 0, 0);
        due.is("12: a claim where there is none", 0, y.check(2000));
    }

    private static void treesThatAreWrong() {
        LeastCost x = Problems.eightClauses();
        due.is("12: run(2000)", 1, x.run(2000));
        log("12", x, 1, 2, 0, 0, 2, 0, 0, -1, 0);
        int[][] wrong = {
            {0}, {1}, {1, 0, 0}, {1, 2, 0, 0, 0}, {1, 2, 0, 0}, {1, 2, 0, 0, 2}, {1, 2, 0, 0, 2, 0},
            {1, 2, 0, 0, 2, 0, 0, 0}, {1, 2, 0, 0, 2, 0, 0, 1}, {1, 2, 0, 0, 17, 0, 0}, {-1, 2, 0, 0, 2, 0, 0},
            {1, 1, 0, 0, 2, 0, 0}, {16, 1, 2, 0, 0, 2, 0, 0}, {1, 2, 0, -3, 2, 0, 0}, {1, 2, 0, 0, LEAST, 0, 0}};
        for (int[] tree : wrong) {
            due.is("12: tree " + java.util.Arrays.toString(tree), 0, checkTree(x, tree));
        }
    }

    private static void treesThatAreRight() {
        LeastCost x = Problems.eightClauses();
        x.run(2000);
        int[][] right = {
            {1, 2, 0, 0, 2, 0, 0}, {3, 2, 0, 0, 1, 0, 0}, {2, 3, 0, 0, 1, 0, 0},
            // broken already: both trees are closed, whatever they split by
            {1, 2, 3, 0, 0, 0, 2, 0, 0}, {1, 2, 16, 0, 9, 9, 0, 0, 0, 0, 2, 0, 0}, {1, 2, 0, 0, 2, 0, 2, 0, 0},
            // set already to 0: the tree with 1 is closed, the other one goes on
            {1, 1, 2, 0, 0, 0, 2, 0, 0}, {16, 1, 2, 0, 0, 2, 0, 0, 0},
            // set already to 1: the tree with 0 is closed
            {1, 2, 0, 0, 1, 0, 2, 0, 0}, {1, 2, 0, 0, 1, 4, 0, 0, 2, 0, 0}};
        for (int[] tree : right) {
            due.is("12: tree " + java.util.Arrays.toString(tree), 1, checkTree(x, tree));
        }
        LeastCost y = Problems.oneOrTwo();
        y.run(2000);
        write("12", y, 0, 3, 1);
        due.is("12: the limit alone closes it", 1, y.check(1));
    }

    private static int checkTree(LeastCost x, int[] tree) {
        int[] words = java.util.Arrays.copyOf(tree, tree.length + 2);
        words[tree.length] = -1;
        write("12", x, words);
        return x.check(2000);
    }

    /** As many open trees as a log has room for: each word but the last 199 splits by the same one. */
    private static void theDeepestTree() {
        LeastCost x = Problems.impossible();
        x.run(2000);
        x.cut(0);
        for (int i = 0; i < 397; i++) {
            x.poke(i, i < 198 ? 1 : 0);
        }
        x.poke(397, -1);
        x.poke(398, 0);
        due.is("12: a deep tree", 1, x.check(2000));
        LeastCost y = Problems.impossible();
        y.run(2000);
        y.cut(0);
        for (int i = 0; i < 398; i++) {
            y.poke(i, 16);
        }
        y.poke(398, -1);
        y.poke(399, 0);
        due.is("12: check(397)", MORE, y.check(397));
        due.is("12: a tree that is open all along", 0, y.check(1));
    }

    private static void costsAndBoundsAtTheirMost() {
        LeastCost x = new LeastCost();
        for (int v = 1; v <= 16; v++) {
            x.setCost(v, 32767);
            x.term(32767, v);
        }
        x.end(15 * 32767 + 1);
        due.is("5: run(2000)", 1, x.run(2000));
        due.is("6: all costs together", 16 * 32767, x.optimum());
        log("5", x, 0, 16 * 32767, 65535);
        due.is("13: steps()", 18, x.steps());
        due.is("12: check(1)", 1, x.check(1));
        LeastCost y = Problems.withVariables(1);
        y.setCost(1, 32767);
        y.term(32767, 1);
        y.end(32767);
        due.is("5: run(2000)", 1, y.run(2000));
        due.is("6: optimum()", 32767, y.optimum());
    }
}
