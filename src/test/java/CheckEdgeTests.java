/** 'The check' and 'a tree': each sentence that names a boundary case, with a test of its own. */
public final class CheckEdgeTests {
    private static final Sentences sentences = new Sentences();

    public static void main(String[] args) {
        sentences.test("its last word but one is the claim", CheckEdgeTests::theLastTwoWords);
        sentences.test("wrong when there are no two such words", CheckEdgeTests::noTwoWords);
        sentences.test("wrong when they do not fulfil the constraints", CheckEdgeTests::notFulfilled);
        sentences.test("the lowest 16 bits", CheckEdgeTests::theLowest16Bits);
        sentences.test("wrong when they have another cost", CheckEdgeTests::anotherCost);
        sentences.test("when the claim is not -1", CheckEdgeTests::theClaimIsNone);
        sentences.test("wrong when there is no tree", CheckEdgeTests::noTree);
        sentences.test("wrong when the tree is not closed", CheckEdgeTests::anOpenTree);
        sentences.test("wrong when it goes on behind the tree", CheckEdgeTests::wordsBehindTheTree);
        sentences.test("what is forced is set, again and again", CheckEdgeTests::againAndAgain);
        sentences.test("with limit claim - 1", CheckEdgeTests::theLimitOfTheClaim);
        sentences.test("a claim of 0 is a limit below 0", CheckEdgeTests::aClaimOf0);
        sentences.test("no limit if the claim is -1", CheckEdgeTests::noLimit);
        sentences.test("a 0 closes it if some constraint is broken", CheckEdgeTests::zeroClosesWhatIsBroken);
        sentences.test("the limit's own slack, 0 and below", CheckEdgeTests::zeroWhereTheLimitIsBroken);
        sentences.test("a variable (1 .. 16)", CheckEdgeTests::wordsThatAreVariables);
        sentences.test("any other word is no tree", CheckEdgeTests::wordsThatAreNone);
        sentences.test("two trees, with it 0 and with it 1", CheckEdgeTests::zeroBeforeOne);
        sentences.test("set already to 1: the tree with 0", CheckEdgeTests::setAlreadyTo1);
        sentences.test("set already to 0: the tree with 1", CheckEdgeTests::setAlreadyTo0);
        sentences.test("as if broken in all of that tree", CheckEdgeTests::inAllOfThatTree);
        sentences.test("a constraint is broken already", CheckEdgeTests::brokenAlready);
        sentences.test("a tree with all its words open", CheckEdgeTests::allWordsOpen);
        sentences.test("the deepest tree that is closed", CheckEdgeTests::theDeepestTree);
        sentences.finish();
    }

    private static Calls on(LeastCost object) {
        return sentences.on(object);
    }

    private static LeastCost done(LeastCost object) {
        object.run(2000);
        return object;
    }

    /** Its log is 1 0 0, and 3 and 1. */
    private static LeastCost oneOrTwo() {
        return done(Problems.oneOrTwo());
    }

    /** Its log is 1 2 0 0 2 0 0, and -1 and 0. */
    private static LeastCost eightClauses() {
        return done(Problems.eightClauses());
    }

    private static LeastCost impossible() {
        return done(Problems.impossible());
    }

    /** Where 1 is 0, 2 is forced both ways; where it is 1, a choice is needed. Its log is 1 0 2 0 0, and -1 and 0. */
    private static LeastCost lopsided() {
        LeastCost x = Problems.withVariables(3);
        clause(x, 1, 2);
        clause(x, 1, -2);
        for (int signs = 0; signs < 4; signs++) {
            clause(x, -1, signs % 2 == 0 ? 2 : -2, signs / 2 == 0 ? 3 : -3);
        }
        return done(x);
    }

    private static void clause(LeastCost x, int... literals) {
        for (int literal : literals) {
            x.term(1, literal);
        }
        x.end(1);
    }

    private static void theLastTwoWords() {
        on(oneOrTwo()).write(1, 0, 0, 3, 1).due("check(3) = 1").write(1, 0, 0, 1, 3).due("check(1) = 0")
            .write(3, 1, 1, 0, 0).due("check(1) = 0");
        // the same words, one further: 3 and 1 are the claim and the variables, or 1 and 0 are
        on(oneOrTwo()).write(0, 3, 1).due("check(1) = 1").write(0, 3, 1, 0).due("check(1) = 0");
    }

    private static void noTwoWords() {
        on(oneOrTwo()).write().due("check(1) = 0").write(0).due("check(1) = 0").write(-1).due("check(1) = 0");
        on(impossible()).write().due("check(1) = 0", "check(2000) = 0").write(0).due("check(1) = 0").write(-1)
            .due("check(1) = 0").write(0, -1).due("check(1) = 0").write(0, -1, 0).due("check(1) = 1");
    }

    private static void notFulfilled() {
        // 3 and 4 have to be 4: 1 alone is too little by one, 2 alone is just enough
        LeastCost x = Problems.withVariables(2);
        x.term(3, 1);
        x.term(4, 2);
        x.end(4);
        on(done(x)).write(0, 0, 0).due("check(1) = 0").write(0, 0, 1).due("check(1) = 0").write(0, 0, 2)
            .due("check(1) = 1").write(0, 0, 3).due("check(1) = 1")
            // the first constraint, by one variable, and the last one of them
            .write(0, 0, 6).due("check(1) = 0").write(0, 0, 32770).due("check(1) = 0");
    }

    private static void theLowest16Bits() {
        on(oneOrTwo()).write(0, 3, 0x10001).due("check(1) = 1").write(0, 3, 0x7fff0001).due("check(1) = 1")
            .write(0, 3, 0xffff0001).due("check(1) = 1").write(0, 3, 0x8001).due("check(1) = 0")
            .write(0, 3, 0x10000).due("check(1) = 0");
        LeastCost x = new LeastCost();
        x.setCost(16, 7);
        x.term(1, 16);
        x.end(1);
        on(done(x)).due("optimum() = 7").write(0, 7, 0x8000).due("check(1) = 1").write(0, 7, 0xffff8000)
            .due("check(1) = 1").write(0, 7, -1).due("check(1) = 1").write(0, 7, 0x4000).due("check(1) = 0");
    }

    private static void anotherCost() {
        on(oneOrTwo()).write(0, 2, 1).due("check(1) = 0").write(0, 4, 1).due("check(1) = 0").write(0, -2, 1)
            .due("check(1) = 0").write(0, 0, 1).due("check(1) = 0").write(0, Integer.MIN_VALUE, 1).due("check(1) = 0")
            .write(0, Integer.MAX_VALUE, 1).due("check(1) = 0").write(0, 3, 1).due("check(1) = 1");
    }

    private static void theClaimIsNone() {
        on(impossible()).write(0, -1, 0).due("check(1) = 1").write(0, -1, 12345).due("check(1) = 1")
            .write(0, -1, Integer.MIN_VALUE).due("check(1) = 1").write(0, -2, 0).due("check(1) = 0")
            .write(0, 0, 0).due("check(1) = 0").write(0, 0, 1).due("check(1) = 0");
    }

    private static void noTree() {
        on(oneOrTwo()).write(3, 1).due("check(1) = 0").write(0, 3, 1).due("check(1) = 1");
        on(impossible()).write(-1, 0).due("check(1) = 0", "check(1) = 0");
    }

    private static void anOpenTree() {
        // all words of it are read, and one of its two trees is missing, or both are
        on(eightClauses()).write(1, 2, 0, 0, 2, 0, -1, 0).due("check(5) = MORE", "check(1) = 0")
            .write(1, 2, 0, 0, 2, -1, 0).due("check(4) = MORE", "check(1) = 0")
            .write(1, 2, 0, 0, -1, 0).due("check(2000) = 0").write(1, -1, 0).due("check(1) = 0")
            .write(1, 2, 0, 0, 2, 0, 0, -1, 0).due("check(6) = MORE", "check(1) = 1");
    }

    private static void wordsBehindTheTree() {
        on(oneOrTwo()).write(0, 0, 3, 1).due("check(1) = 0").write(0, 1, 3, 1).due("check(1) = 0")
            .write(1, 0, 0, 0, 3, 1).due("check(2) = MORE", "check(1) = 0").write(1, 0, 0, 99, 3, 1)
            .due("check(2000) = 0").write(0, 3, 1, 3, 1).due("check(2000) = 0");
    }

    /** 16 is 1, and each other one with the one above it; each constraint is before the one that it waits for. */
    private static LeastCost downward() {
        LeastCost x = new LeastCost();
        for (int v = 1; v <= 15; v++) {
            clause(x, v, -v - 1);
        }
        clause(x, 16);
        return x;
    }

    private static void againAndAgain() {
        // all 16 are set before the last constraint is broken
        LeastCost x = downward();
        clause(x, -1, -16);
        on(done(x)).due("steps() = 17", "check(1) = 1").log(0, -1, 0).write(1, 0, 0, -1, 0).due("check(3) = 1");
        // all 16 are set, and none is broken
        on(done(downward())).write(0, -1, 0).due("check(1) = 0").write(0, 0, 65535).due("check(1) = 1")
            .write(1, 0, 0, -1, 0).due("check(2) = MORE", "check(1) = 0");
        // in each tree anew: 1 is 0 or 1, and either way all the others follow
        LeastCost y = Problems.withVariables(4);
        clause(y, -3, 4);
        clause(y, -2, 3);
        clause(y, -1, 2);
        clause(y, 1, 2);
        clause(y, -4, -2);
        on(done(y)).due("optimum() = -1").log(1, 0, 0, -1, 0).due("check(2) = MORE", "check(1) = 1").write(0, -1, 0)
            .due("check(1) = 0");
    }

    private static void theLimitOfTheClaim() {
        // with 3 - 1 neither 1 nor 2 may be 1; with 5 - 1 only 2 may not
        on(oneOrTwo()).write(0, 3, 1).due("check(1) = 1").write(0, 5, 2).due("check(1) = 0").write(0, 8, 3)
            .due("check(1) = 0");
        // the claim itself is no better one: 1 costs 1, 2 costs 1
        LeastCost x = Problems.withVariables(2);
        x.setCost(1, 1);
        x.setCost(2, 1);
        clause(x, 1, 2);
        on(done(x)).write(0, 1, 1).due("check(1) = 1").write(0, 1, 2).due("check(1) = 1").write(0, 2, 3)
            .due("check(1) = 0").write(1, 0, 0, 2, 3).due("check(2000) = 0");
    }

    private static void aClaimOf0() {
        // no constraint and no cost: the limit -1 alone is broken
        on(done(new LeastCost())).write(0, 0, 0).due("check(1) = 1").write(0, 0, 65535).due("check(1) = 1")
            .write(16, 0, 0, 0, 0).due("check(2) = MORE", "check(1) = 1").write(0, 1, 0).due("check(1) = 0");
    }

    private static void noLimit() {
        // there is one that fulfils the constraints: no limit breaks any
        on(oneOrTwo()).write(0, -1, 0).due("check(1) = 0").write(1, 0, 0, -1, 0).due("check(2000) = 0")
            .write(1, 0, 0, -1, 1).due("check(2000) = 0");
        on(done(new LeastCost())).write(0, -1, 0).due("check(1) = 0");
        // and without one the costs do no harm, the greatest ones neither
        LeastCost x = Problems.eightClauses();
        for (int v = 1; v <= 16; v++) {
            x.setCost(v, 32767);
        }
        on(done(x)).log(1, 2, 0, 0, 2, 0, 0, -1, 0).due("check(7) = 1").write(0, -1, 0).due("check(1) = 0")
            .write(1, 0, 0, -1, 0).due("check(2000) = 0");
    }

    private static void zeroClosesWhatIsBroken() {
        on(eightClauses()).write(0, -1, 0).due("check(1) = 0").write(1, 0, 0, -1, 0).due("check(1) = MORE", "check(1) = 0")
            .write(1, 2, 0, 0, 0, -1, 0).due("check(4) = MORE", "check(1) = 0")
            .write(1, 2, 0, 0, 2, 0, 0, -1, 0).due("check(7) = 1");
    }

    private static void zeroWhereTheLimitIsBroken() {
        // 1 costs 2 and 2 costs 3, and both have to be 1: 5; with the limit 4 broken, with 5 just not
        LeastCost x = Problems.withVariables(3);
        x.setCost(1, 2);
        x.setCost(2, 3);
        x.setCost(3, 1);
        clause(x, 1);
        clause(x, 2);
        on(done(x)).due("optimum() = 5").write(0, 5, 3).due("check(1) = 1").write(0, 6, 7).due("check(1) = 0")
            // with the limit 5 and 3 set to 1: 6
            .write(3, 0, 0, 6, 7).due("check(1) = MORE", "check(1) = 0");
    }

    private static void wordsThatAreVariables() {
        for (int v = 1; v <= 16; v++) {
            on(oneOrTwo()).write(v, 0, 0, 3, 1).due("check(2) = MORE", "check(1) = 1");
        }
    }

    private static void wordsThatAreNone() {
        int[] others = {-1, 17, -16, -17, 33, 65537, Integer.MIN_VALUE, Integer.MAX_VALUE};
        for (int word : others) {
            on(oneOrTwo()).write(word, 0, 0, 3, 1).due("check(1) = 0").write(1, 0, word, 3, 1)
                .due("check(2) = MORE", "check(1) = 0").write(word, 3, 1).due("check(1) = 0");
        }
    }

    private static void zeroBeforeOne() {
        on(lopsided()).log(1, 0, 2, 0, 0, -1, 0).due("check(5) = 1")
            .write(1, 2, 0, 0, 0, -1, 0).due("check(4) = MORE", "check(1) = 0");
        // in the second tree what the first one set is not set: 2 is 0 in the first, a choice in the second
        on(eightClauses()).write(1, 2, 0, 0, 0, -1, 0).due("check(2000) = 0");
    }

    private static void setAlreadyTo1() {
        // 1 is 1 behind the first four words: the tree with 0 is closed at once, the one with 1 goes on
        on(eightClauses()).write(1, 2, 0, 0, 1, 0, 2, 0, 0, -1, 0).due("check(8) = MORE", "check(1) = 1")
            .write(1, 2, 0, 0, 1, 0, 0, -1, 0).due("check(6) = MORE", "check(1) = 0");
        // forced, not chosen: 1 is 1 by a constraint
        LeastCost x = Problems.eightClauses();
        clause(x, 1);
        on(done(x)).write(1, 0, 2, 0, 0, -1, 0).due("check(5) = 1").write(1, 2, 0, 0, 0, -1, 0).due("check(2000) = 0");
    }

    private static void setAlreadyTo0() {
        // 1 is 0 behind the first word: the tree with 1 is closed at once, the one with 0 goes on
        on(eightClauses()).write(1, 1, 2, 0, 0, 0, 2, 0, 0, -1, 0).due("check(8) = MORE", "check(1) = 1")
            .write(1, 1, 0, 2, 0, 0, 2, 0, 0, -1, 0).due("check(2) = MORE", "check(1) = 0");
        // 16 is 0 by a constraint
        on(eightClauses()).write(16, 1, 2, 0, 0, 2, 0, 0, 0, -1, 0).due("check(9) = 1")
            .write(16, 0, 1, 2, 0, 0, 2, 0, 0, -1, 0).due("check(1) = MORE", "check(1) = 0");
    }

    private static void inAllOfThatTree() {
        // 4 is in no constraint: the trees with 4 both ways are as if broken, though no constraint is
        LeastCost x = Problems.withVariables(4);
        for (int signs = 0; signs < 8; signs++) {
            clause(x, signs % 2 == 0 ? 1 : -1, signs / 2 % 2 == 0 ? 2 : -2, signs / 4 == 0 ? 3 : -3);
        }
        on(done(x)).due("optimum() = -1")
            // it is 0, and then 1: that tree has trees of its own
            .write(4, 4, 1, 2, 0, 0, 2, 0, 0, 3, 0, 0, 1, 2, 0, 0, 2, 0, 0, -1, 0).due("check(18) = MORE", "check(1) = 1")
            // it is 1, and then 0
            .write(4, 1, 2, 0, 0, 2, 0, 0, 4, 3, 9, 0, 0, 0, 1, 2, 0, 0, 2, 0, 0, -1, 0)
            .due("check(20) = MORE", "check(1) = 1")
            // in the trees of 3 alone, one way, nothing is broken
            .write(4, 3, 0, 0, 1, 2, 0, 0, 2, 0, 0, -1, 0).due("check(2) = MORE", "check(1) = 0");
        // not any more behind it: the tree with 1 of the first choice is open
        on(eightClauses()).write(1, 1, 2, 0, 0, 0, 0, -1, 0).due("check(6) = MORE", "check(1) = 0");
    }

    private static void brokenAlready() {
        on(impossible()).write(5, 0, 0, -1, 0).due("check(3) = 1").write(1, 0, 1, 0, 0, -1, 0).due("check(5) = 1")
            .write(2, 3, 0, 0, 4, 0, 0, -1, 0).due("check(6) = MORE", "check(1) = 1");
        on(eightClauses()).write(1, 2, 3, 0, 0, 0, 2, 0, 16, 9, 0, 0, 0, -1, 0).due("check(12) = MORE", "check(1) = 1");
        // broken in the first tree is not broken in the second
        on(eightClauses()).write(1, 2, 0, 0, 0, -1, 0).due("check(2000) = 0");
    }

    private static void allWordsOpen() {
        LeastCost x = impossible();
        x.cut(0);
        for (int i = 0; i < 398; i++) {
            x.poke(i, 1 + i % 16);
        }
        on(x).due("poke(398, -1) = 0", "poke(399, 0) = 0", "check(397) = MORE", "check(1) = 0", "check(1) = 0");
    }

    private static void theDeepestTree() {
        LeastCost x = impossible();
        x.cut(0);
        for (int i = 0; i < 397; i++) {
            x.poke(i, i < 198 ? 1 + i % 16 : 0);
        }
        on(x).due("poke(397, -1) = 0", "poke(398, 0) = 0", "check(396) = MORE", "check(1) = 1", "cut(399) = 0",
            "check(2000) = 1",
            // with a word more before the claim it goes on behind the tree
            "poke(397, 0) = 0", "poke(398, -1) = 0", "poke(399, 0) = 0", "check(396) = MORE", "check(1) = 0");
    }
}
