/** Promises 1 to 13: each sentence that names a boundary case, with a test of its own. */
public final class CallEdgeTests {
    private static final Sentences sentences = new Sentences();

    public static void main(String[] args) {
        sentences.test("0: used for at most 512 calls", CallEdgeTests::the512thCall);
        sentences.test("1: no constraints", CallEdgeTests::noConstraints);
        sentences.test("1: no costs", CallEdgeTests::noCosts);
        testBuilding();
        testSearching();
        testTheLog();
        testChecking();
        sentences.finish();
    }

    private static void testBuilding() {
        sentences.test("2: a variable, 1 .. 16", CallEdgeTests::variablesWithACost);
        sentences.test("2: a cost, 0 .. 32767: 0", CallEdgeTests::costs);
        sentences.test("2: BAD", CallEdgeTests::aBadCostChangesNothing);
        sentences.test("2: BAD also behind the first run()", CallEdgeTests::costsBehindTheFirstRun);
        sentences.test("3: coefficient 1 .. 32767: 0", CallEdgeTests::coefficients);
        sentences.test("3: a literal, v and -v", CallEdgeTests::literals);
        sentences.test("3: BAD", CallEdgeTests::aBadTermChangesNothing);
        sentences.test("3: BAD also when its variable is there already", CallEdgeTests::aVariableTwice);
        sentences.test("3: BAD also when there were 120", CallEdgeTests::allTermsTaken);
        sentences.test("3: BAD also when there were 20 constraints", CallEdgeTests::termsOfConstraint20);
        sentences.test("3: BAD also behind the first run()", CallEdgeTests::termsBehindTheFirstRun);
        sentences.test("4: perhaps without terms", CallEdgeTests::constraintsWithoutTerms);
        sentences.test("4: a bound 0 .. 1073741824", CallEdgeTests::bounds);
        sentences.test("4: its number", CallEdgeTests::numbersOfConstraints);
        sentences.test("4: BAD", CallEdgeTests::aBadEndChangesNothing);
        sentences.test("4: BAD when all places are taken", CallEdgeTests::allConstraintsTaken);
        sentences.test("4: BAD also behind the first run()", CallEdgeTests::endsBehindTheFirstRun);
    }

    private static void testSearching() {
        sentences.test("5: so many steps (1 .. 2000)", CallEdgeTests::fuelOfTheSearch);
        sentences.test("5: 2000 steps are 2000 steps", CallEdgeTests::twoThousandSteps);
        sentences.test("5: or till it is done: 1", CallEdgeTests::tillItIsDone);
        sentences.test("5: MORE when not", CallEdgeTests::moreOfTheSearch);
        sentences.test("5: NO_ROOM", CallEdgeTests::noRoomForTheSearch);
        sentences.test("5: BAD", CallEdgeTests::badFuelOfTheSearch);
        sentences.test("5: terms of a constraint that was not made are gone", CallEdgeTests::termsThatAreGone);
        sentences.test("6: when it is done: the least cost", CallEdgeTests::theLeastCost);
        sentences.test("6: -1 when there is none", CallEdgeTests::noLeastCost);
        sentences.test("6: else NOT_DONE", CallEdgeTests::noLeastCostYet);
        sentences.test("7: a variable", CallEdgeTests::variablesWithAValue);
        sentences.test("7: in the best assignment so far", CallEdgeTests::valuesSoFar);
        sentences.test("7: BAD when there is none", CallEdgeTests::noValues);
        sentences.test("13: how many steps", CallEdgeTests::stepsOfTheSearch);
    }

    private static void testTheLog() {
        sentences.test("8: how many words the log has", CallEdgeTests::sizesOfTheLog);
        sentences.test("9: word i of the log", CallEdgeTests::wordsOfTheLog);
        sentences.test("9: -9 when there is none", CallEdgeTests::noWords);
        sentences.test("10: when it is done", CallEdgeTests::pokesBeforeItIsDone);
        sentences.test("10: word i becomes another one", CallEdgeTests::pokesInside);
        sentences.test("10: i its size, below 400, comes behind", CallEdgeTests::pokesBehind);
        sentences.test("10: any word", CallEdgeTests::pokesOfAnyWord);
        sentences.test("10: BAD", CallEdgeTests::badPokesChangeNothing);
        sentences.test("10: BAD also i = 400", CallEdgeTests::pokesOfWord400);
        sentences.test("10: a check begins anew then", CallEdgeTests::pokesBeginACheckAnew);
        sentences.test("11: when it is done, likewise", CallEdgeTests::cutsBeforeItIsDone);
        sentences.test("11: so that it has so many", CallEdgeTests::cuts);
        sentences.test("11: BAD", CallEdgeTests::badCutsChangeNothing);
        sentences.test("11: a check begins anew, likewise", CallEdgeTests::cutsBeginACheckAnew);
    }

    private static void testChecking() {
        sentences.test("12: at most so many words (1 .. 2000)", CallEdgeTests::fuelOfTheCheck);
        sentences.test("12: a word of the tree each", CallEdgeTests::aWordEach);
        sentences.test("12: claim and variables with the first", CallEdgeTests::theClaimWithTheFirst);
        sentences.test("12: once it is right, the same again", CallEdgeTests::rightAgain);
        sentences.test("12: once it is wrong, the same again", CallEdgeTests::wrongAgain);
        sentences.test("12: NOT_DONE", CallEdgeTests::checksBeforeItIsDone);
        sentences.test("12: BAD", CallEdgeTests::badFuelOfTheCheck);
    }

    private static Calls on(LeastCost object) {
        return sentences.on(object);
    }

    private static LeastCost ran(int fuel, LeastCost object) {
        object.run(fuel);
        return object;
    }

    private static LeastCost onTheWay() {
        return ran(1, Problems.oneOrTwo());
    }

    /** Its log is 1 0 0, and 3 and 1. */
    private static LeastCost done() {
        return ran(2000, Problems.oneOrTwo());
    }

    private static LeastCost withoutRoom() {
        return ran(2000, Problems.someOf(5, 11));
    }

    /** In every state behind the first run() these calls are BAD, and the search is none the wiser. */
    private static void areBadBehindTheFirstRun(String... texts) {
        on(onTheWay()).due(texts).due("run(19) = MORE", "run(1) = 1", "steps() = 21", "optimum() = 3");
        on(done()).due(texts).due("optimum() = 3", "check(3) = 1");
        on(withoutRoom()).due(texts).due("run(1) = NO_ROOM");
    }

    private static void the512thCall() {
        LeastCost x = new LeastCost();
        for (int call = 1; call <= 34; call++) {
            x.run(1);
        }
        for (int call = 35; call <= 511; call++) {
            x.poke(0, 2 - call % 2);
        }
        on(x).due("check(2000) = 1");
    }

    private static void noConstraints() {
        on(new LeastCost()).due("end(7) = 0");
        on(new LeastCost()).due("run(16) = MORE").log(1, 2, 3, 4, 5, 6, 7, 8, 9, 10, 11, 12, 13, 14, 15, 16)
            .due("run(1) = MORE", "value(1) = 0", "value(16) = 0", "run(16) = MORE", "run(1) = 1", "optimum() = 0");
        on(new LeastCost()).due("steps() = 0", "logSize() = 0", "logAt(0) = -9", "optimum() = NOT_DONE",
            "value(1) = BAD", "poke(0, 0) = BAD", "cut(0) = BAD", "check(1) = NOT_DONE");
    }

    private static void noCosts() {
        for (int v = 1; v <= 16; v++) {
            on(new LeastCost()).due("term(1, " + v + ") = 0", "end(1) = 0", "run(2000) = 1", "optimum() = 0",
                "value(" + v + ") = 1");
        }
    }

    private static void variablesWithACost() {
        on(new LeastCost()).due("setCost(0, 1) = BAD", "setCost(1, 2) = 0", "setCost(16, 3) = 0",
            "setCost(17, 1) = BAD", "setCost(-1, 1) = BAD", "setCost(-16, 1) = BAD", "setCost(LEAST, 1) = BAD",
            "setCost(MOST, 1) = BAD",
            "term(1, 1) = 0", "term(1, 16) = 0", "end(2) = 0", "run(2000) = 1", "optimum() = 5");
    }

    private static void costs() {
        on(new LeastCost()).due("setCost(1, -1) = BAD", "setCost(1, 0) = 0", "setCost(2, 32767) = 0",
            "setCost(2, 32768) = BAD", "setCost(1, LEAST) = BAD", "setCost(1, MOST) = BAD",
            "term(1, 1) = 0", "term(1, 2) = 0", "end(2) = 0", "run(2000) = 1", "optimum() = 32767");
        on(new LeastCost()).due("setCost(1, 9) = 0", "setCost(1, 0) = 0",
            "term(1, 1) = 0", "end(1) = 0", "run(2000) = 1", "optimum() = 0");
    }

    private static void aBadCostChangesNothing() {
        on(new LeastCost()).due("setCost(1, 4) = 0", "setCost(1, -1) = BAD", "setCost(1, 32768) = BAD",
            "setCost(0, 5) = BAD", "setCost(17, 5) = BAD", "setCost(-1, 5) = BAD", "setCost(33, 5) = BAD",
            "term(1, 1) = 0", "term(1, 16) = 0", "end(2) = 0", "run(2000) = 1", "optimum() = 4");
    }

    private static void costsBehindTheFirstRun() {
        areBadBehindTheFirstRun("setCost(1, 1) = BAD", "setCost(2, 0) = BAD", "setCost(3, 1) = BAD");
    }

    private static void coefficients() {
        on(new LeastCost()).due("term(0, 1) = BAD", "term(1, 1) = 0", "term(32767, 2) = 0", "term(32768, 3) = BAD",
            "term(-1, 3) = BAD", "term(LEAST, 3) = BAD", "term(MOST, 3) = BAD",
            // both are needed, and no other one is there
            "end(32768) = 0", "run(2) = MORE", "run(1) = MORE").log(3)
            .due("run(2000) = 1", "value(1) = 1", "value(2) = 1");
        on(new LeastCost()).due("term(1, 1) = 0", "term(32767, 2) = 0", "end(32769) = 0", "run(1) = 1", "optimum() = -1");
    }

    private static void literals() {
        on(new LeastCost()).due("term(1, 0) = BAD", "term(1, 17) = BAD", "term(1, -17) = BAD", "term(1, LEAST) = BAD",
            "term(1, -2147483647) = BAD", "term(1, MOST) = BAD", "term(1, 33) = BAD", "term(1, -33) = BAD");
        on(new LeastCost()).due("term(1, 1) = 0", "term(1, -16) = 0", "end(2) = 0", "run(2) = MORE", "run(15) = MORE")
            .due("value(1) = 1", "value(16) = 0", "logAt(0) = 2", "logSize() = 14");
        on(new LeastCost()).due("term(1, -1) = 0", "term(1, 16) = 0", "end(2) = 0", "run(2) = MORE", "run(15) = MORE")
            .due("value(1) = 0", "value(16) = 1", "logAt(0) = 2", "logSize() = 14");
    }

    private static void aBadTermChangesNothing() {
        on(new LeastCost()).due("term(0, 1) = BAD", "term(32768, 1) = BAD", "term(1, 17) = BAD", "term(1, 0) = BAD",
            // 1 is not there yet, and nothing counts toward the bound
            "term(1, 1) = 0", "end(2) = 0", "run(1) = 1", "optimum() = -1");
    }

    private static void aVariableTwice() {
        on(new LeastCost()).due("term(1, 3) = 0", "term(1, 3) = BAD", "term(1, -3) = BAD", "end(-1) = BAD",
            "term(1, -3) = BAD", "end(1) = 0", "term(1, -3) = 0", "term(1, 3) = BAD", "end(0) = 1",
            "run(2000) = 1", "value(3) = 1");
        // a term that was refused adds nothing
        on(new LeastCost()).due("term(1, 16) = 0", "term(1, 16) = BAD", "end(2) = 0", "run(1) = 1", "optimum() = -1");
    }

    private static void allTermsTaken() {
        LeastCost x = new LeastCost();
        Calls calls = on(x);
        for (int t = 0; t < 119; t++) {
            calls.due("term(1, " + (1 + t % 16) + ") = 0");
            if (t % 16 == 15) {
                x.end(0);
            }
        }
        calls.due("term(1, 17) = BAD", "term(1, 7) = BAD", "term(2, 8) = 0", "term(1, 9) = BAD",
            // 1 .. 7 and 8, with coefficient 2
            "end(9) = 7", "term(1, 9) = BAD", "end(0) = 8", "run(8) = MORE", "logSize() = 0",
            "run(2000) = 1", "value(8) = 1", "value(9) = 0");
    }

    private static void termsOfConstraint20() {
        Calls calls = on(new LeastCost());
        for (int c = 0; c < 19; c++) {
            calls.due("end(0) = " + c);
        }
        calls.due("term(1, 1) = 0", "end(1) = 19", "term(1, 1) = BAD", "term(1, 2) = BAD",
            "run(2000) = 1", "value(1) = 1", "value(2) = 0");
    }

    private static void termsBehindTheFirstRun() {
        areBadBehindTheFirstRun("term(1, 1) = BAD", "term(1, -16) = BAD", "term(0, 1) = BAD");
    }

    private static void constraintsWithoutTerms() {
        on(new LeastCost()).due("end(0) = 0", "run(1) = MORE").log(1);
        on(new LeastCost()).due("end(1) = 0", "run(1) = 1", "optimum() = -1").log(0, -1, 0);
        on(new LeastCost()).due("end(0) = 0", "term(1, 1) = 0", "end(1) = 1", "end(0) = 2", "run(2000) = 1",
            "value(1) = 1");
    }

    private static void bounds() {
        on(new LeastCost()).due("end(-1) = BAD", "end(0) = 0", "end(1073741824) = 1", "end(1073741825) = BAD",
            "end(LEAST) = BAD", "end(MOST) = BAD", "run(1) = 1", "optimum() = -1");
        on(new LeastCost()).due("term(32767, 1) = 0", "end(1073741824) = 0", "run(1) = 1", "optimum() = -1");
    }

    private static void numbersOfConstraints() {
        on(new LeastCost()).due("end(0) = 0", "end(-1) = BAD", "end(0) = 1", "term(1, 1) = 0", "end(0) = 2");
    }

    private static void aBadEndChangesNothing() {
        on(new LeastCost()).due("term(1, 3) = 0", "end(-1) = BAD", "end(1073741825) = BAD", "term(1, 3) = BAD",
            "term(1, 4) = 0", "end(2) = 0", "run(2000) = 1", "value(3) = 1", "value(4) = 1");
    }

    private static void allConstraintsTaken() {
        Calls calls = on(new LeastCost());
        for (int c = 0; c < 20; c++) {
            calls.due("end(0) = " + c);
        }
        calls.due("end(0) = BAD", "end(1) = BAD", "run(2000) = 1", "optimum() = 0");
    }

    private static void endsBehindTheFirstRun() {
        areBadBehindTheFirstRun("end(0) = BAD", "end(1) = BAD", "end(-1) = BAD");
    }

    private static void fuelOfTheSearch() {
        on(Problems.oneOrTwo()).due("run(0) = BAD", "run(2001) = BAD", "run(-1) = BAD", "run(LEAST) = BAD",
            "run(MOST) = BAD", "steps() = 0", "run(1) = MORE", "steps() = 1", "run(2) = MORE", "steps() = 3",
            "run(2000) = 1");
    }

    private static void twoThousandSteps() {
        on(Problems.twoThousandSteps()).due("run(2000) = MORE", "steps() = 2000", "run(54) = MORE", "steps() = 2054",
            "logSize() = 398", "run(1) = NO_ROOM", "steps() = 2055");
    }

    private static void tillItIsDone() {
        on(Problems.oneOrTwo()).due("run(21) = 1", "steps() = 21");
        on(Problems.oneOrTwo()).due("run(2000) = 1", "steps() = 21", "run(1) = 1", "run(2000) = 1", "steps() = 21")
            .log(1, 0, 0, 3, 1);
        on(done()).due("cut(0) = 0", "run(1) = 1").log();
    }

    private static void moreOfTheSearch() {
        on(Problems.oneOrTwo()).due("run(20) = MORE", "steps() = 20", "run(1) = 1");
        on(Problems.impossible()).due("run(1) = MORE", "run(1) = 1");
    }

    private static void noRoomForTheSearch() {
        on(Problems.someOf(5, 11)).due("run(939) = MORE", "logSize() = 400", "run(1) = NO_ROOM", "logSize() = 400");
    }

    private static void badFuelOfTheSearch() {
        // no first run() yet: all may still be built
        on(new LeastCost()).due("term(1, 1) = 0", "run(0) = BAD", "run(2001) = BAD", "setCost(1, 4) = 0",
            "term(1, 2) = 0", "end(2) = 0", "run(2000) = 1", "optimum() = 4");
        on(onTheWay()).due("run(0) = BAD", "run(2001) = BAD", "steps() = 1");
        on(done()).due("run(0) = BAD", "run(2001) = BAD", "steps() = 21").log(1, 0, 0, 3, 1);
        on(withoutRoom()).due("run(0) = BAD", "run(2001) = BAD", "steps() = 940");
    }

    private static void termsThatAreGone() {
        on(Problems.oneOrTwo()).due("term(1, 1) = 0", "term(1, 2) = 0", "run(1) = MORE", "end(2) = BAD",
            "run(2000) = 1", "steps() = 21", "optimum() = 3", "check(2000) = 1").log(1, 0, 0, 3, 1);
        // 16 terms are gone where no constraint was made
        LeastCost x = new LeastCost();
        for (int v = 1; v <= 16; v++) {
            x.term(1, v);
        }
        on(x).due("run(1) = MORE").log(1).due("run(33) = 1", "steps() = 34", "optimum() = 0", "check(2000) = 1");
    }

    private static void theLeastCost() {
        on(done()).due("optimum() = 3", "cut(0) = 0", "optimum() = 3");
        on(ran(2000, new LeastCost())).due("optimum() = 0");
        LeastCost x = new LeastCost();
        for (int v = 1; v <= 16; v++) {
            x.setCost(v, 32767);
            x.term(1, v);
        }
        on(x).due("end(16) = 0", "run(2000) = 1", "optimum() = 524272");
    }

    private static void noLeastCost() {
        on(Problems.impossible()).due("run(1) = MORE", "optimum() = NOT_DONE", "run(1) = 1", "optimum() = -1");
    }

    private static void noLeastCostYet() {
        on(Problems.oneOrTwo()).due("optimum() = NOT_DONE", "run(0) = BAD", "optimum() = NOT_DONE", "run(1) = MORE",
            "optimum() = NOT_DONE", "run(19) = MORE", "value(1) = 1", "optimum() = NOT_DONE", "run(1) = 1",
            "optimum() = 3");
        on(withoutRoom()).due("value(11) = 1", "optimum() = NOT_DONE");
    }

    private static void variablesWithAValue() {
        LeastCost x = new LeastCost();
        for (int v = 1; v <= 16; v++) {
            x.term(1, v);
        }
        x.end(16);
        Calls calls = on(ran(2000, x));
        for (int v = 1; v <= 16; v++) {
            calls.due("value(" + v + ") = 1");
        }
        calls.due("value(0) = BAD", "value(17) = BAD", "value(-1) = BAD", "value(33) = BAD", "value(LEAST) = BAD",
            "value(MOST) = BAD");
    }

    private static void valuesSoFar() {
        on(Problems.oneOrTwo()).due("run(16) = MORE", "value(2) = BAD", "run(1) = MORE", "value(1) = 0", "value(2) = 1",
            "run(2) = MORE", "value(1) = 0", "value(2) = 1", "run(1) = MORE", "value(1) = 1", "value(2) = 0",
            "run(1) = 1", "value(1) = 1", "value(2) = 0", "poke(4, 2) = 0", "cut(1) = 0", "value(1) = 1");
        // the first best one: the last five of eleven
        on(withoutRoom()).due("value(6) = 0", "value(7) = 1", "value(11) = 1", "value(12) = 0");
    }

    private static void noValues() {
        on(Problems.oneOrTwo()).due("value(1) = BAD", "run(16) = MORE", "value(1) = BAD", "value(16) = BAD");
        on(ran(2000, Problems.impossible())).due("value(1) = BAD", "value(16) = BAD");
        on(ran(2000, ran(2000, Problems.twoThousandSteps()))).due("run(1) = NO_ROOM", "value(1) = BAD");
    }

    private static void stepsOfTheSearch() {
        on(Problems.oneOrTwo()).due("steps() = 0", "run(0) = BAD", "run(2001) = BAD", "steps() = 0", "run(1) = MORE",
            "steps() = 1", "run(2000) = 1", "steps() = 21", "run(2000) = 1", "check(2000) = 1", "steps() = 21");
        // the step whose word has no room is one too
        on(Problems.someOf(5, 11)).due("run(939) = MORE", "steps() = 939", "run(2000) = NO_ROOM", "steps() = 940",
            "run(2000) = NO_ROOM", "steps() = 940");
    }

    private static void sizesOfTheLog() {
        on(Problems.oneOrTwo()).due("logSize() = 0", "run(14) = MORE", "logSize() = 0", "run(1) = MORE", "logSize() = 1",
            "run(2000) = 1", "logSize() = 5", "poke(5, 0) = 0", "logSize() = 6", "poke(5, 1) = 0", "logSize() = 6",
            "cut(0) = 0", "logSize() = 0");
        on(withoutRoom()).due("logSize() = 400");
    }

    private static void wordsOfTheLog() {
        on(done()).due("logAt(0) = 1", "logAt(1) = 0", "logAt(2) = 0", "logAt(3) = 3", "logAt(4) = 1");
        // its last word is a choice; the 0 behind it has no room
        on(withoutRoom()).due("logAt(0) = 1", "logAt(399) = 9");
    }

    private static void noWords() {
        on(new LeastCost()).due("logAt(0) = -9", "logAt(-1) = -9", "logAt(399) = -9", "logAt(400) = -9");
        on(done()).due("logAt(-1) = -9", "logAt(5) = -9", "logAt(399) = -9", "logAt(400) = -9", "logAt(LEAST) = -9",
            "logAt(MOST) = -9", "cut(4) = 0", "logAt(4) = -9", "logAt(3) = 3", "cut(0) = 0", "logAt(0) = -9");
        on(withoutRoom()).due("logAt(400) = -9", "logAt(401) = -9", "logAt(-1) = -9");
    }

    private static void pokesBeforeItIsDone() {
        on(Problems.oneOrTwo()).due("poke(0, 1) = BAD").log();
        on(ran(20, Problems.oneOrTwo())).due("poke(0, 2) = BAD", "poke(1, 2) = BAD", "poke(2, 2) = BAD").log(1, 0)
            .due("run(1) = 1", "poke(0, 2) = 0").log(2, 0, 0, 3, 1);
        on(withoutRoom()).due("poke(0, 8) = BAD", "poke(399, 8) = BAD", "poke(400, 8) = BAD", "logAt(0) = 1",
            "logAt(399) = 9", "logSize() = 400");
    }

    private static void pokesInside() {
        on(done()).due("poke(0, 7) = 0", "poke(4, 8) = 0").log(7, 0, 0, 3, 8);
        on(done()).due("poke(-1, 7) = BAD", "poke(LEAST, 7) = BAD").log(1, 0, 0, 3, 1);
    }

    private static void pokesBehind() {
        on(done()).due("poke(6, 7) = BAD", "poke(5, 7) = 0").log(1, 0, 0, 3, 1, 7);
        on(done()).due("cut(0) = 0", "poke(1, 7) = BAD", "poke(0, 7) = 0").log(7);
        Calls calls = on(done());
        for (int i = 5; i < 400; i++) {
            calls.due("poke(" + i + ", " + (i - 9) + ") = 0");
        }
        calls.due("logSize() = 400", "logAt(4) = 1", "logAt(5) = -4", "logAt(200) = 191", "logAt(399) = 390");
    }

    private static void pokesOfAnyWord() {
        on(done()).due("poke(0, LEAST) = 0", "poke(1, MOST) = 0", "poke(2, -9) = 0", "poke(5, -1) = 0")
            .log(Integer.MIN_VALUE, Integer.MAX_VALUE, -9, 3, 1, -1);
    }

    private static void badPokesChangeNothing() {
        on(done()).due("check(2) = MORE", "poke(-1, 9) = BAD", "poke(6, 9) = BAD", "poke(MOST, 9) = BAD",
            "poke(LEAST, 9) = BAD", "check(1) = 1").log(1, 0, 0, 3, 1);
    }

    private static void pokesOfWord400() {
        on(done()).due("poke(400, 0) = BAD", "poke(401, 0) = BAD").log(1, 0, 0, 3, 1);
        LeastCost x = done();
        for (int i = 5; i < 399; i++) {
            x.poke(i, 0);
        }
        on(x).due("logSize() = 399", "poke(400, 6) = BAD", "poke(399, 6) = 0", "logSize() = 400", "poke(400, 6) = BAD",
            "logSize() = 400", "poke(399, 7) = 0", "logAt(399) = 7", "logAt(400) = -9", "cut(399) = 0",
            "poke(400, 6) = BAD", "poke(399, 8) = 0", "logSize() = 400");
    }

    private static void pokesBeginACheckAnew() {
        // right, on the way, and wrong before
        on(done()).due("check(3) = 1", "poke(0, 1) = 0", "check(2) = MORE", "poke(0, 1) = 0", "check(2) = MORE",
            "check(1) = 1", "poke(3, 4) = 0", "check(1) = 0", "poke(3, 3) = 0", "check(2) = MORE", "check(1) = 1",
            "poke(5, 1) = 0", "check(1) = 0");
    }

    private static void cutsBeforeItIsDone() {
        on(Problems.oneOrTwo()).due("cut(0) = BAD");
        on(ran(20, Problems.oneOrTwo())).due("cut(0) = BAD", "cut(1) = BAD", "cut(2) = BAD").log(1, 0)
            .due("run(1) = 1", "cut(4) = 0").log(1, 0, 0, 3);
        on(withoutRoom()).due("cut(0) = BAD", "cut(399) = BAD", "cut(400) = BAD", "logSize() = 400");
    }

    private static void cuts() {
        on(done()).due("cut(6) = BAD", "cut(5) = 0").log(1, 0, 0, 3, 1).due("cut(4) = 0").log(1, 0, 0, 3)
            .due("cut(5) = BAD", "cut(0) = 0").log().due("cut(1) = BAD", "cut(0) = 0").log();
    }

    private static void badCutsChangeNothing() {
        on(done()).due("check(2) = MORE", "cut(-1) = BAD", "cut(6) = BAD", "cut(400) = BAD", "cut(LEAST) = BAD",
            "cut(MOST) = BAD", "check(1) = 1").log(1, 0, 0, 3, 1);
    }

    private static void cutsBeginACheckAnew() {
        on(done()).due("poke(5, 1) = 0", "check(1) = 0", "cut(5) = 0", "check(2) = MORE", "cut(5) = 0",
            "check(2) = MORE", "check(1) = 1", "cut(4) = 0", "check(1) = 0");
    }

    private static void fuelOfTheCheck() {
        on(done()).due("check(0) = BAD", "check(2001) = BAD", "check(-1) = BAD", "check(LEAST) = BAD",
            "check(MOST) = BAD", "check(1) = MORE", "check(1) = MORE", "check(1) = 1");
        on(done()).due("check(2000) = 1");
    }

    private static void aWordEach() {
        on(done()).due("check(2) = MORE", "check(1) = 1", "cut(5) = 0", "check(1) = MORE", "check(2) = 1", "cut(5) = 0",
            "check(3) = 1");
        // a log of 399 words, 397 of them its tree
        LeastCost x = Problems.contradiction(11, 1, 3, 3, 2, 3, 1, 1, 2, 2, 3, 2);
        on(ran(2000, x)).due("logSize() = 399", "check(396) = MORE", "check(1) = 1", "cut(399) = 0", "check(397) = 1");
    }

    private static void theClaimWithTheFirst() {
        on(done()).due("poke(3, 4) = 0", "check(1) = 0");
        on(done()).due("poke(4, 3) = 0", "check(1) = 0");
        // the word of the tree alone, with a claim that is right, needs one word more
        on(done()).due("poke(1, 17) = 0", "check(1) = MORE", "check(1) = 0");
    }

    private static void rightAgain() {
        on(done()).due("check(3) = 1", "check(1) = 1", "check(2000) = 1", "check(1) = 1");
    }

    private static void wrongAgain() {
        on(done()).due("poke(1, 17) = 0", "check(2) = 0", "check(1) = 0", "check(2000) = 0");
        on(done()).due("cut(1) = 0", "check(1) = 0", "check(2000) = 0");
    }

    private static void checksBeforeItIsDone() {
        on(Problems.oneOrTwo()).due("check(1) = NOT_DONE", "check(2000) = NOT_DONE");
        on(ran(20, Problems.oneOrTwo())).due("check(1) = NOT_DONE", "run(1) = 1", "check(2) = MORE");
        on(withoutRoom()).due("check(1) = NOT_DONE", "check(2000) = NOT_DONE");
        // behind its end, whatever the log has become
        on(done()).due("cut(0) = 0", "check(1) = 0");
    }

    private static void badFuelOfTheCheck() {
        on(done()).due("check(1) = MORE", "check(0) = BAD", "check(2001) = BAD", "check(1) = MORE", "check(0) = BAD",
            "check(1) = 1", "check(0) = BAD", "check(2001) = BAD", "check(1) = 1");
        // what is not done is told first
        on(onTheWay()).due("check(0) = NOT_DONE", "check(2001) = NOT_DONE");
        on(withoutRoom()).due("check(0) = NOT_DONE", "check(2001) = NOT_DONE");
    }
}
