/** 'Terms', up to the log: each sentence that names a boundary case, with a test of its own. */
public final class SearchEdgeTests {
    private static final Sentences sentences = new Sentences();

    public static void main(String[] args) {
        testConstraints();
        testSteps();
        testTheLog();
        sentences.finish();
    }

    private static void testConstraints() {
        sentences.test("variables are 1 .. 16", SearchEdgeTests::sixteenVariables);
        sentences.test("v is true when v is 1, -v when it is 0", SearchEdgeTests::literals);
        sentences.test("constraints, at most 20, numbered from 0", SearchEdgeTests::twentyConstraints);
        sentences.test("each variable once", SearchEdgeTests::eachVariableOnce);
        sentences.test("terms, at most 120 in all", SearchEdgeTests::allTermsCount);
        sentences.test("the bound or more", SearchEdgeTests::theBoundOrMore);
        sentences.test("a cost, 0 at first", SearchEdgeTests::noCostAtFirst);
        sentences.test("the cost of all variables that are 1", SearchEdgeTests::costOfAll);
        sentences.test("literals that are not false", SearchEdgeTests::slackOfWhatIsNotSet);
        sentences.test("less its bound, the greatest one", SearchEdgeTests::slackOfTheGreatestBound);
        sentences.test("the limit's cost or less", SearchEdgeTests::theLimitOrLess);
        sentences.test("the limit is behind the others", SearchEdgeTests::theLimitIsTheLast);
        sentences.test("the limit's terms by their numbers", SearchEdgeTests::theLimitsTerms);
        sentences.test("broken when its slack is below 0", SearchEdgeTests::brokenBelow0);
        sentences.test("a limit below 0 is broken", SearchEdgeTests::aLimitBelow0);
        sentences.test("forces coefficients greater than its slack", SearchEdgeTests::forcedAboveTheSlack);
        sentences.test("the limit forces costs greater than its slack", SearchEdgeTests::forcedAboveTheLimit);
        sentences.test("forces literals that are not set", SearchEdgeTests::forcedOnce);
    }

    private static void testSteps() {
        sentences.test("a limit as soon as there is a best one", SearchEdgeTests::noLimitBeforeTheBest);
        sentences.test("the limit best - 1", SearchEdgeTests::noBetterOfEqualCost);
        sentences.test("1: broken before forced", SearchEdgeTests::brokenBeforeForced);
        sentences.test("1: 0 is logged", SearchEdgeTests::zeroIsLogged);
        sentences.test("1: the latest choice whose variable was 0", SearchEdgeTests::theLatestChoice);
        sentences.test("1: what was set behind it is not any more", SearchEdgeTests::setBehindAChoice);
        sentences.test("1: later choices are not any more", SearchEdgeTests::laterChoices);
        sentences.test("1: if there is none, it is done", SearchEdgeTests::noChoiceIsLeft);
        sentences.test("2: the first one by constraints", SearchEdgeTests::theFirstByConstraints);
        sentences.test("2: the first one by terms", SearchEdgeTests::theFirstByTerms);
        sentences.test("2: forced before a choice", SearchEdgeTests::forcedBeforeAChoice);
        sentences.test("3: if all variables are set", SearchEdgeTests::allAreSet);
        sentences.test("4: the least variable that is not set", SearchEdgeTests::theLeastNotSet);
        sentences.test("4: it becomes 0", SearchEdgeTests::aChoiceIs0);
    }

    private static void testTheLog() {
        sentences.test("the cost of the best one is logged", SearchEdgeTests::theCostIsLogged);
        sentences.test("-1 if there is none, and 0", SearchEdgeTests::noBestIsLogged);
        sentences.test("bit v - 1 for v", SearchEdgeTests::theVariablesAreLogged);
        sentences.test("at most 400 words", SearchEdgeTests::theLongestLog);
        sentences.test("a 0 more than 400 words", SearchEdgeTests::noRoomForA0);
        sentences.test("a choice more than 400 words", SearchEdgeTests::noRoomForAChoice);
        sentences.test("the variables more than 400 words", SearchEdgeTests::noRoomForTheVariables);
        sentences.test("the search is over, for good", SearchEdgeTests::overForGood);
    }

    private static Calls on(LeastCost object) {
        return sentences.on(object);
    }

    private static void sixteenVariables() {
        on(new LeastCost()).due("run(15) = MORE", "logAt(14) = 15", "run(1) = MORE", "logAt(15) = 16", "value(1) = BAD",
            "run(1) = MORE", "logSize() = 16", "value(1) = 0", "value(16) = 0", "value(17) = BAD", "value(0) = BAD");
    }

    private static void literals() {
        on(new LeastCost()).due("term(1, -1) = 0", "term(1, 2) = 0", "term(1, 15) = 0", "term(1, -16) = 0", "end(4) = 0",
            "run(2000) = 1", "value(1) = 0", "value(2) = 1", "value(15) = 1", "value(16) = 0", "optimum() = 0");
        // no choice of these four is in the log, nor is one of them the other way
        on(new LeastCost()).due("term(1, -1) = 0", "term(1, 16) = 0", "end(2) = 0", "run(2) = MORE", "logSize() = 0",
            "run(14) = MORE", "logAt(0) = 2", "logAt(13) = 15", "run(1) = MORE", "value(16) = 1");
    }

    private static void twentyConstraints() {
        // each forces one variable, the last one to 1
        Calls calls = on(new LeastCost());
        for (int c = 0; c < 20; c++) {
            calls.due("term(1, " + (c < 15 ? -1 - c : c < 19 ? -1 : 16) + ") = 0", "end(1) = " + c);
        }
        calls.due("term(1, 1) = BAD", "end(0) = BAD", "run(16) = MORE", "logSize() = 0", "run(1) = MORE", "value(16) = 1",
            "run(1) = 1").log(0, 0, 32768);
    }

    private static void eachVariableOnce() {
        on(new LeastCost()).due("term(2, 5) = 0", "term(1, 5) = BAD", "term(1, -5) = BAD", "end(3) = 0",
            "run(1) = 1").log(0, -1, 0);
        on(new LeastCost()).due("term(2, 5) = 0", "end(2) = 0", "term(1, -5) = 0", "end(1) = 1", "run(1) = MORE",
            "run(1) = 1").log(0, -1, 0);
    }

    private static void allTermsCount() {
        LeastCost x = new LeastCost();
        for (int t = 0; t < 112; t++) {
            x.term(1, 1 + t % 16);
            if (t % 16 == 15) {
                x.end(0);
            }
        }
        Calls calls = on(x);
        for (int v = 1; v <= 8; v++) {
            calls.due("term(" + v + ", " + v + ") = 0");
        }
        // the sum of all eight is just great enough
        calls.due("term(1, 9) = BAD", "end(36) = 7", "run(8) = MORE", "logSize() = 0", "run(1) = MORE").log(9)
            .due("run(7) = MORE", "run(1) = MORE", "value(1) = 1", "value(8) = 1", "value(9) = 0");
    }

    private static void theBoundOrMore() {
        LeastCost x = Problems.withVariables(2);
        on(x).due("term(3, 1) = 0", "term(4, 2) = 0", "end(4) = 1", "run(2000) = 1", "value(1) = 0", "value(2) = 1")
            .write(0, 0, 1).due("check(1) = 0").write(0, 0, 2).due("check(1) = 1").write(0, 0, 3).due("check(1) = 1");
        on(new LeastCost()).due("term(3, 1) = 0", "term(4, 2) = 0", "end(7) = 0", "run(2000) = 1", "optimum() = 0");
        on(new LeastCost()).due("term(3, 1) = 0", "term(4, 2) = 0", "end(8) = 0", "run(2000) = 1", "optimum() = -1");
    }

    private static void noCostAtFirst() {
        LeastCost x = new LeastCost();
        for (int v = 1; v <= 16; v++) {
            x.term(1, v);
        }
        on(x).due("end(16) = 0", "setCost(8, 5) = 0", "run(2000) = 1", "optimum() = 5");
    }

    private static void costOfAll() {
        LeastCost x = new LeastCost();
        LeastCost y = new LeastCost();
        for (int v = 1; v <= 16; v++) {
            x.setCost(v, 32767);
            x.term(1, v);
            y.setCost(v, 32767);
            y.term(1, -v);
        }
        on(x).due("end(16) = 0", "run(2000) = 1", "optimum() = 524272").log(0, 524272, 65535).due("check(1) = 1");
        on(y).due("end(16) = 0", "run(2000) = 1", "optimum() = 0").log(0, 0, 0).due("check(1) = 1");
    }

    private static void slackOfWhatIsNotSet() {
        // 5 and 3 less 5, both not set: 3; 1 true: 3; 2 false: 0
        on(Problems.withVariables(2)).due("term(5, 1) = 0", "term(3, 2) = 0", "end(5) = 1", "run(14) = MORE",
            "run(1) = MORE").log().due("run(1) = MORE").log(2).due("run(1) = MORE", "value(1) = 1", "value(2) = 0");
        // 2 false from the first constraint on: 3 less 3 for 1, which is forced
        on(Problems.withVariables(1)).due("term(3, 1) = 0", "term(9, 2) = 0", "end(3) = 1", "run(16) = MORE",
            "logSize() = 0", "run(1) = MORE", "value(1) = 1");
        // a negative literal is false when its variable is 1
        on(new LeastCost()).due("term(1, 1) = 0", "end(1) = 0", "term(1, -1) = 0", "term(1, 2) = 0", "end(1) = 1",
            "run(2) = MORE").log().due("run(1) = MORE").log(3);
    }

    private static void slackOfTheGreatestBound() {
        on(new LeastCost()).due("end(1073741824) = 0", "run(1) = 1").log(0, -1, 0);
        LeastCost x = new LeastCost();
        for (int v = 1; v <= 16; v++) {
            x.term(32767, v);
        }
        on(x).due("end(1073741824) = 0", "run(1) = 1").log(0, -1, 0);
        LeastCost y = new LeastCost();
        for (int v = 1; v <= 16; v++) {
            y.term(32767, v);
        }
        on(y).due("end(524272) = 0", "run(17) = MORE", "value(1) = 1", "run(1) = 1").log(0, 0, 65535);
        LeastCost z = new LeastCost();
        for (int v = 1; v <= 16; v++) {
            z.term(32767, v);
        }
        on(z).due("end(524273) = 0", "run(1) = 1").log(0, -1, 0);
    }

    /** 1, 2 or 3 has to be 1; 1 costs 2, the others 3. */
    private static LeastCost oneOfThree() {
        LeastCost x = Problems.withVariables(3);
        x.setCost(1, 2);
        x.setCost(2, 3);
        x.setCost(3, 3);
        x.term(1, 1);
        x.term(1, 2);
        x.term(1, 3);
        x.end(1);
        return x;
    }

    private static void theLimitOrLess() {
        // with the limit 2: 3 alone and 2 alone are broken, 1 alone is not
        on(oneOfThree()).due("run(17) = MORE", "value(3) = 1", "run(1) = MORE").log(1, 2, 0).due("run(1) = MORE")
            .log(1, 2, 0, 0).due("run(2) = MORE", "logSize() = 4", "run(1) = MORE", "value(1) = 1", "value(3) = 0",
            "run(1) = 1").log(1, 2, 0, 0, 0, 2, 1);
    }

    private static void theLimitIsTheLast() {
        LeastCost x = Problems.withVariables(3);
        on(x).due("setCost(1, 2) = 0", "setCost(2, 3) = 0", "setCost(3, 1) = 0", "term(1, 1) = 0", "term(1, 2) = 0",
            "end(1) = 1", "term(1, -1) = 0", "term(1, 3) = 0", "end(1) = 2",
            // 1 is 0, 2 is forced, 3 is 0: the best one, which costs 3; then 3 is 1, and 1 is 1
            "run(13) = MORE", "run(4) = MORE", "value(2) = 1", "run(2) = MORE").log(1, 3, 0, 0)
            // the constraint forces 3, and the limit 2 is broken; the limit would force -2 and -3
            .due("run(1) = MORE", "run(1) = 1").log(1, 3, 0, 0, 0, 3, 2);
    }

    private static void theLimitsTerms() {
        LeastCost x = Problems.withVariables(6);
        on(x).due("setCost(1, 1) = 0", "setCost(2, 2) = 0", "setCost(3, 2) = 0", "setCost(4, 2) = 0",
            "term(1, 1) = 0", "term(1, 4) = 0", "end(1) = 1",
            "term(3, 2) = 0", "term(1, 5) = 0", "term(1, 6) = 0", "term(1, 3) = 0", "term(3, -1) = 0", "end(3) = 2",
            // 1 is 0, 4 is forced, 2, 3, 5 and 6 are 0: the best one, which costs 2
            "run(10) = MORE", "run(7) = MORE", "value(4) = 1").log(1, 2, 3, 5, 6)
            // 6, 5, 3, 2 are 1 in vain, then 1 is 1: the limit 1 leaves no slack
            .due("run(5) = MORE").log(1, 2, 3, 5, 6, 0, 0, 0, 0, 0)
            // the limit forces -2, so that the constraint forces 5, 6 and 3, and 3 breaks the limit;
            // from the last one on it would be -4 and -3, so that the constraint forces 2
            .due("run(4) = MORE", "logSize() = 10", "run(1) = 1").log(1, 2, 3, 5, 6, 0, 0, 0, 0, 0, 0, 2, 8);
    }

    private static void brokenBelow0() {
        on(new LeastCost()).due("end(0) = 0", "run(1) = MORE").log(1);
        on(new LeastCost()).due("end(1) = 0", "run(1) = 1").log(0, -1, 0);
        on(new LeastCost()).due("term(7, 1) = 0", "end(7) = 0", "run(1) = MORE").log();
        on(new LeastCost()).due("term(7, 1) = 0", "end(8) = 0", "run(1) = 1").log(0, -1, 0);
    }

    private static void aLimitBelow0() {
        // the best one costs 0: with the limit -1 there is no better one, though no variable has a cost
        on(Problems.withVariables(1)).due("run(17) = MORE", "value(1) = 0").log(1).due("run(1) = MORE").log(1, 0)
            .due("run(1) = 1").log(1, 0, 0, 0, 0);
        // the best one costs 1: with the limit 0 one that costs nothing may follow
        LeastCost x = Problems.withVariables(2);
        on(x).due("setCost(2, 1) = 0", "term(1, 1) = 0", "term(1, 2) = 0", "end(1) = 1", "run(17) = MORE", "value(2) = 1",
            "run(1) = MORE", "run(1) = MORE", "run(1) = MORE", "value(2) = 0", "run(1) = 1").log(1, 0, 0, 0, 1);
    }

    private static void forcedAboveTheSlack() {
        // 4, 3 and 2 less 6: the slack is 3, so that only 4 is greater
        on(Problems.withVariables(3)).due("term(4, 1) = 0", "term(3, 2) = 0", "term(2, 3) = 0", "end(6) = 1",
            "run(14) = MORE").log().due("run(1) = MORE").log(2)
            // 2 is 0: the slack is 0, and 3 is forced
            .due("run(1) = MORE").log(2).due("run(1) = MORE", "value(1) = 1", "value(2) = 0", "value(3) = 1");
    }

    private static void forcedAboveTheLimit() {
        // the best one, 4 alone, costs 5; with the limit 4 and 1, which costs 1: 3 may still be spent
        LeastCost x = Problems.withVariables(4);
        on(x).due("setCost(1, 1) = 0", "setCost(2, 3) = 0", "setCost(3, 4) = 0", "setCost(4, 5) = 0", "term(1, 1) = 0",
            "term(1, 4) = 0", "end(1) = 1", "run(12) = MORE", "run(5) = MORE", "value(4) = 1").log(1, 2, 3)
            .due("run(3) = MORE").log(1, 2, 3, 0, 0, 0)
            // -3 and -4 are forced, 2 is a choice
            .due("run(2) = MORE", "logSize() = 6", "run(1) = MORE").log(1, 2, 3, 0, 0, 0, 2);
    }

    private static void forcedOnce() {
        // each of 16 is forced once, in spite of a slack of 0 all along
        LeastCost x = new LeastCost();
        for (int v = 16; v >= 1; v--) {
            x.term(v, v);
        }
        on(x).due("end(136) = 0", "run(16) = MORE", "value(1) = BAD", "run(1) = MORE", "value(1) = 1", "run(1) = 1",
            "steps() = 18").log(0, 0, 65535);
    }

    private static void noLimitBeforeTheBest() {
        // all costs at their most, and all of them needed
        LeastCost x = new LeastCost();
        for (int v = 1; v <= 16; v++) {
            x.setCost(v, 32767);
        }
        // no limit forces one of them to 0 before there is a best one: 16 choices
        on(x).due("run(16) = MORE", "logSize() = 16", "run(1) = MORE", "value(1) = 0");
        LeastCost y = new LeastCost();
        for (int v = 1; v <= 16; v++) {
            y.setCost(v, 32767);
            y.term(1, v);
        }
        on(y).due("end(16) = 0", "run(17) = MORE", "value(16) = 1", "run(1) = 1", "optimum() = 524272");
    }

    private static void noBetterOfEqualCost() {
        LeastCost x = Problems.withVariables(2);
        on(x).due("setCost(1, 3) = 0", "setCost(2, 3) = 0", "term(1, 1) = 0", "term(1, 2) = 0", "end(1) = 1",
            "run(2000) = 1", "value(1) = 0", "value(2) = 1").log(1, 0, 0, 3, 2);
        LeastCost y = Problems.withVariables(2);
        on(y).due("setCost(1, 2) = 0", "setCost(2, 3) = 0", "term(1, 1) = 0", "term(1, 2) = 0", "end(1) = 1",
            "run(2000) = 1", "value(1) = 1", "value(2) = 0").log(1, 0, 0, 2, 1);
    }

    private static void brokenBeforeForced() {
        on(new LeastCost()).due("term(1, 1) = 0", "end(1) = 0", "end(1) = 1", "run(1) = 1", "steps() = 1")
            .log(0, -1, 0);
        // the limit is broken, though the constraint forces 2
        LeastCost x = Problems.withVariables(2);
        on(x).due("setCost(1, 1) = 0", "term(1, -1) = 0", "term(1, 2) = 0", "end(1) = 1",
            // 1 and 2 are 0: the best one, which costs 0; 2 is 1: the limit -1; 1 is 1 likewise
            "run(17) = MORE", "value(1) = 0", "run(2) = MORE", "run(1) = 1").log(1, 2, 0, 0, 0, 0, 0);
    }

    private static void zeroIsLogged() {
        on(Problems.oneOrTwo()).due("run(17) = MORE").log(1).due("run(1) = MORE").log(1, 0);
        on(Problems.impossible()).due("run(1) = MORE").log().due("run(1) = 1").log(0, -1, 0);
    }

    private static void theLatestChoice() {
        // 1 and 2 are 0, 3 is forced, and that is broken: 2 becomes 1, then 1
        on(Problems.eightClauses()).due("run(13) = MORE", "run(2) = MORE").log(1, 2).due("run(2) = MORE").log(1, 2, 0)
            .due("run(2) = MORE").log(1, 2, 0, 0).due("run(1) = MORE").log(1, 2, 0, 0, 2)
            .due("run(2) = MORE").log(1, 2, 0, 0, 2, 0).due("run(1) = MORE", "run(1) = 1")
            .log(1, 2, 0, 0, 2, 0, 0, -1, 0);
    }

    private static void setBehindAChoice() {
        // 2 was forced behind the choice 1: it is set anew, to 0
        on(Problems.oneOrTwo()).due("run(17) = MORE", "value(2) = 1", "run(3) = MORE", "value(1) = 1", "value(2) = 0");
        // 3 .. 16 were forced before the choice: they stay
        on(Problems.oneOrTwo()).due("run(18) = MORE", "run(1) = MORE", "run(1) = MORE", "value(1) = 1");
    }

    private static void laterChoices() {
        // 2 was a choice behind 1, and had become 1: it is a choice again, and 0 first
        on(Problems.eightClauses()).due("run(2000) = 1", "logAt(1) = 2", "logAt(4) = 2", "logSize() = 9");
        LeastCost x = Problems.withVariables(3);
        on(x).due("setCost(3, 9) = 0", "term(1, 1) = 0", "term(1, 3) = 0", "end(1) = 1",
            // 1 is 0: 3 is forced, 2 is 0 (cost 9) and 1 (broken); 1 is 1: 3 is 0, 2 a choice again
            "run(13) = MORE", "run(4) = MORE", "value(3) = 1").log(1, 2).due("run(2) = MORE").log(1, 2, 0, 0)
            .due("run(1) = MORE", "run(1) = MORE").log(1, 2, 0, 0, 2).due("run(1) = MORE", "value(2) = 0", "value(1) = 1");
    }

    private static void noChoiceIsLeft() {
        // none was ever made; all have become 1; the best one cannot be bettered
        on(Problems.impossible()).due("run(2) = 1", "steps() = 2");
        on(Problems.eightClauses()).due("run(23) = MORE", "run(1) = 1", "steps() = 24");
        on(Problems.withVariables(0)).due("run(17) = MORE", "run(1) = 1").log(0, 0, 0);
    }

    private static void theFirstByConstraints() {
        // 1, then -2, and the third is broken; from the last one on it would be 3, 2, -1
        on(new LeastCost()).due("term(1, 1) = 0", "end(1) = 0", "term(1, -1) = 0", "term(1, -2) = 0", "end(1) = 1",
            "term(1, 2) = 0", "end(1) = 2", "term(1, 3) = 0", "end(1) = 3", "run(2) = MORE", "run(1) = 1",
            "steps() = 3");
    }

    private static void theFirstByTerms() {
        // -2 before 1, though 1 is less: the second constraint is broken at once
        on(new LeastCost()).due("term(1, -2) = 0", "term(1, 1) = 0", "end(2) = 0", "term(1, 2) = 0", "end(1) = 1",
            "run(1) = MORE", "run(1) = 1", "steps() = 2");
        // 5 before 2 and 7, the greatest coefficient last
        on(new LeastCost()).due("term(1, 5) = 0", "term(2, 2) = 0", "term(3, 7) = 0", "end(6) = 0", "term(1, -5) = 0",
            "end(1) = 1", "run(1) = MORE", "run(1) = 1", "steps() = 2");
    }

    private static void forcedBeforeAChoice() {
        on(new LeastCost()).due("term(1, 16) = 0", "end(1) = 0", "run(1) = MORE").log().due("run(1) = MORE").log(1);
    }

    private static void allAreSet() {
        // a step of its own, with no word in the log
        on(Problems.withVariables(0)).due("run(16) = MORE", "value(1) = BAD", "run(1) = MORE", "value(1) = 0").log()
            .due("steps() = 17", "optimum() = NOT_DONE", "run(1) = 1");
        on(Problems.withVariables(1)).due("run(16) = MORE", "value(1) = BAD", "run(1) = MORE", "value(1) = 0").log(1);
    }

    private static void theLeastNotSet() {
        on(new LeastCost()).due("term(1, 1) = 0", "term(1, 3) = 0", "end(2) = 0", "run(2) = MORE", "run(1) = MORE").log(2)
            .due("run(1) = MORE").log(2, 4);
        LeastCost x = new LeastCost();
        for (int v = 1; v <= 15; v++) {
            x.term(1, -v);
        }
        on(x).due("end(15) = 0", "run(15) = MORE", "run(1) = MORE").log(16);
    }

    private static void aChoiceIs0() {
        on(new LeastCost()).due("run(17) = MORE", "value(1) = 0", "value(16) = 0");
        // also where 1 would cost nothing and fulfil more
        on(Problems.withVariables(1)).due("term(9, 1) = 0", "end(0) = 1", "run(17) = MORE", "value(1) = 0");
    }

    private static void theCostIsLogged() {
        on(Problems.oneOrTwo()).due("run(20) = MORE").log(1, 0).due("run(1) = 1").log(1, 0, 0, 3, 1);
        on(Problems.withVariables(0)).due("run(18) = 1").log(0, 0, 0);
    }

    private static void noBestIsLogged() {
        on(Problems.impossible()).due("run(2) = 1").log(0, -1, 0);
        on(Problems.eightClauses()).due("run(24) = 1", "logAt(7) = -1", "logAt(8) = 0", "logSize() = 9");
    }

    private static void theVariablesAreLogged() {
        for (int v = 1; v <= 16; v++) {
            LeastCost x = new LeastCost();
            for (int w = 1; w <= 16; w++) {
                x.term(1, w == v ? w : -w);
            }
            on(x).due("end(16) = 0", "run(18) = 1").log(0, 0, 1 << (v - 1));
        }
    }

    private static void theLongestLog() {
        // a tree has an odd number of words, so that a log with 400 of them is never done
        LeastCost x = Problems.contradiction(11, 1, 3, 3, 2, 3, 1, 1, 2, 2, 3, 2);
        on(x).due("run(932) = MORE", "logSize() = 396", "run(1) = 1", "logSize() = 399", "logAt(396) = 0",
            "logAt(397) = -1", "logAt(398) = 0", "logAt(399) = -9", "optimum() = -1");
    }

    private static void noRoomForA0() {
        on(Problems.someOf(5, 11)).due("run(939) = MORE", "logSize() = 400", "run(1) = NO_ROOM", "logSize() = 400",
            "logAt(399) = 9", "logAt(400) = -9", "optimum() = NOT_DONE");
    }

    private static void noRoomForAChoice() {
        on(Problems.someOf(6, 11)).due("run(931) = MORE", "logSize() = 400", "run(1) = NO_ROOM", "logSize() = 400",
            "logAt(399) = 0", "logAt(400) = -9", "optimum() = NOT_DONE");
    }

    private static void noRoomForTheVariables() {
        LeastCost x = Problems.twoThousandSteps();
        on(x).due("run(2000) = MORE", "run(54) = MORE", "logSize() = 398", "run(1) = NO_ROOM", "logSize() = 400",
            "logAt(397) = 0", "logAt(398) = 0", "logAt(399) = -1", "optimum() = NOT_DONE", "check(1) = NOT_DONE");
    }

    private static void overForGood() {
        on(Problems.someOf(6, 11)).due("run(2000) = NO_ROOM", "run(1) = NO_ROOM", "run(2000) = NO_ROOM", "steps() = 932",
            "logSize() = 400", "cut(0) = BAD", "poke(399, 0) = BAD", "run(1) = NO_ROOM", "optimum() = NOT_DONE",
            "value(11) = 1", "value(1) = 0", "check(1) = NOT_DONE", "setCost(1, 1) = BAD", "term(1, 1) = BAD",
            "end(0) = BAD");
    }
}
