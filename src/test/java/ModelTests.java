import java.util.ArrayList;
import java.util.Arrays;
import java.util.List;
import java.util.Random;

/** Long runs of calls, made from fixed seeds, on the class and on the model: equal answers are due. */
public final class ModelTests {
    private static final int[] EDGES = {
        Integer.MIN_VALUE, Integer.MIN_VALUE + 1, -65536, -17, -16, -9, -2, -1, 0, 1, 2, 15, 16, 17, 20, 21,
        119, 120, 121, 398, 399, 400, 401, 511, 512, 1999, 2000, 2001, 32766, 32767, 32768, 65535, 65536,
        1073741823, 1073741824, 1073741825, Integer.MAX_VALUE - 1, Integer.MAX_VALUE};

    private final Due due;
    private final Random random;
    private final String name;
    private final LeastCost made = new LeastCost();
    private final Model model = new Model();
    private int calls = 0;

    private ModelTests(Due due, String name, long seed) {
        this.due = due;
        this.random = new Random(seed);
        this.name = name + " " + seed + ": ";
    }

    public static void main(String[] args) {
        Due due = new Due();
        int[] answers = new int[4];
        for (int seed = 0; seed < 400; seed++) {
            new ModelTests(due, "search", seed).searchWhole(answers);
            new ModelTests(due, "anything", seed).callAnything();
        }
        for (int seed = 0; seed < 1500; seed++) {
            new ModelTests(due, "logs", seed).checkLogs(answers);
        }
        for (int seed = 0; seed < 12; seed++) {
            new ModelTests(due, "all assignments", seed).compareWithAllAssignments();
        }
        due.holds("many searches ended", answers[0] > 100);
        due.holds("many searches had no room", answers[1] > 20);
        due.holds("many changed logs were right", answers[2] > 1000);
        due.holds("many changed logs were wrong", answers[3] > 1000);
        System.out.println("done, no room, right, wrong: " + Arrays.toString(answers));
        due.finish();
    }

    private int below(int n) {
        return random.nextInt(n);
    }

    /** What an object answers behind its 512th call is free. */
    private void same(String call, int want, int got) {
        calls++;
        if (calls <= 512) {
            due.is(name + call, want, got);
        }
    }

    private int setCost(int v, int cost) {
        int want = model.setCost(v, cost);
        same("setCost(" + v + ", " + cost + ")", want, made.setCost(v, cost));
        return want;
    }

    private int term(int coefficient, int literal) {
        int want = model.term(coefficient, literal);
        same("term(" + coefficient + ", " + literal + ")", want, made.term(coefficient, literal));
        return want;
    }

    private int end(int bound) {
        int want = model.end(bound);
        same("end(" + bound + ")", want, made.end(bound));
        return want;
    }

    private int run(int fuel) {
        int want = model.run(fuel);
        same("run(" + fuel + ")", want, made.run(fuel));
        return want;
    }

    private int poke(int i, int word) {
        int want = model.poke(i, word);
        same("poke(" + i + ", " + word + ")", want, made.poke(i, word));
        return want;
    }

    private int cut(int size) {
        int want = model.cut(size);
        same("cut(" + size + ")", want, made.cut(size));
        return want;
    }

    private int check(int fuel) {
        int want = model.check(fuel);
        same("check(" + fuel + ")", want, made.check(fuel));
        return want;
    }

    private void look(int i) {
        same("value(" + i + ")", model.value(i), made.value(i));
        same("logSize()", model.logSize(), made.logSize());
        same("optimum()", model.optimum(), made.optimum());
        same("steps()", model.steps(), made.steps());
        lookAtWord(i);
    }

    private void lookAtWord(int i) {
        same("logAt(" + i + ")", model.logAt(i), made.logAt(i));
    }

    private void lookAtAll() {
        for (int v = 0; v <= 17; v++) {
            look(v);
        }
        for (int i = model.logSize(); i >= -1; i--) {
            lookAtWord(i);
        }
    }

    /** Constraints over the variables 1 .. free; the others are all forced to 0, or 1. */
    private void build(int free, int most) {
        for (int v = 1; v <= 16; v++) {
            if (below(3) > 0) {
                setCost(v, below(most));
            }
        }
        int sign = below(2) == 0 ? 1 : -1;
        for (int v = free + 1; v <= 16; v++) {
            term(1, sign * v);
        }
        end(16 - free);
        int constraints = 1 + below(7);
        for (int c = 0; c < constraints; c++) {
            int sum = 0;
            int terms = below(free + 1);
            for (int t = 0; t < terms; t++) {
                int coefficient = 1 + below(most);
                int literal = (1 + below(free)) * (below(3) == 0 ? -1 : 1);
                sum += term(coefficient, literal) == 0 ? coefficient : 0;
            }
            end((int) (sum * (0.2 + 0.6 * random.nextDouble())));
        }
    }

    /** Sums that have to be great enough and costs that count against them: logs get long. */
    private void buildNarrow(int free) {
        int sum = 0;
        for (int v = 1; v <= free; v++) {
            int coefficient = 1 + below(3);
            sum += coefficient;
            term(coefficient, v);
            setCost(v, coefficient + below(2));
        }
        end(sum / 2);
        for (int v = 16; v > free; v--) {
            term(1, -v);
        }
        end(16 - free);
    }

    private int searchOn() {
        int state = 2;
        for (int n = 0; n < 100 && state == 2; n++) {
            state = run(below(4) == 0 ? 2000 : 1 + below(60));
            look(below(20));
        }
        return state;
    }

    private void searchWhole(int[] answers) {
        if (below(3) == 0) {
            buildNarrow(9 + below(8));
        } else {
            build(4 + below(13), below(2) == 0 ? 5 : 32767);
        }
        int state = searchOn();
        answers[0] += state == 1 ? 1 : 0;
        answers[1] += state == -2 ? 1 : 0;
        for (int n = 0; n < 60 && check(1 + below(20)) == 2; n++) {
            lookAtWord(n);
        }
        run(2000);
        lookAtAll();
    }

    private void checkLogs(int[] answers) {
        build(1 + below(4), below(2) == 0 ? 4 : 2000);
        if (searchOn() != 1) {
            return;
        }
        for (int n = 0; n < 12; n++) {
            changeLog();
            int verdict = 2;
            for (int m = 0; m < 500 && verdict == 2; m++) {
                verdict = check(below(3) == 0 ? 2000 : 1 + below(3));
            }
            if (verdict == 1) {
                // whatever the model says of it: no other log may be taken for right
                due.is(name + "what a right log claims", model.optimum(), model.logAt(model.logSize() - 2));
            }
            answers[2] += verdict == 1 ? 1 : 0;
            answers[3] += verdict == 0 ? 1 : 0;
            check(1 + below(2000));
        }
        lookAtAll();
    }

    private List<Integer> words() {
        List<Integer> words = new ArrayList<>();
        for (int i = 0; i < model.logSize(); i++) {
            words.add(model.logAt(i));
        }
        return words;
    }

    private void changeLog() {
        List<Integer> words = words();
        int size = words.size();
        switch (below(6)) {
            case 0 -> poke(below(size + 2), below(19) - 1);
            case 1 -> cut(below(size + 2));
            case 2 -> write(words, growLeaf(words));
            case 3 -> write(words, freshTree());
            case 4 -> write(words, freshTree());
            default -> poke(size - 1 - below(3), below(4) == 0 ? -1 : random.nextInt());
        }
    }

    private void write(List<Integer> old, List<Integer> words) {
        int same = 0;
        while (same < Math.min(old.size(), words.size()) && old.get(same).equals(words.get(same))) {
            same++;
        }
        cut(same);
        for (int i = same; i < words.size(); i++) {
            poke(i, words.get(i));
        }
    }

    /** A 0 becomes a variable and two trees that are closed: right as before, where it was right. */
    private List<Integer> growLeaf(List<Integer> words) {
        List<Integer> grown = new ArrayList<>(words);
        int at = grown.indexOf(0);
        if (at >= 0 && at < grown.size() - 2) {
            grown.set(at, 0);
            grown.add(at, 0);
            grown.add(at, 1 + below(16));
        }
        return grown;
    }

    /** A tree that splits by any variables, so deep that most of it is closed, and a claim. */
    private List<Integer> freshTree() {
        List<Integer> fresh = new ArrayList<>();
        split(fresh, 1 + below(5));
        int best = model.optimum();
        int ones = 0;
        for (int v = 1; v <= 16; v++) {
            ones |= model.value(v) == 1 ? 1 << (v - 1) : 0;
        }
        fresh.add(below(8) == 0 ? best + 1 : best);
        fresh.add(below(8) == 0 ? ones ^ 1 << below(20) : ones);
        return fresh;
    }

    private void split(List<Integer> words, int depth) {
        if (depth == 0) {
            words.add(0);
            return;
        }
        words.add(1 + below(below(3) == 0 ? 16 : 4));
        split(words, depth - 1 - below(depth));
        split(words, depth - 1);
    }

    private int anyNumber() {
        return switch (below(4)) {
            case 0 -> EDGES[below(EDGES.length)];
            case 1 -> below(41) - 20;
            case 2 -> 1 + below(16);
            default -> below(450) - 5;
        };
    }

    private void callAnything() {
        int last = 20 + below(300);
        for (int n = 0; n < 500; n++) {
            int kind = below(12);
            if (n < last && kind == 4) {
                run(EDGES[below(9)]);
                continue;
            }
            switch (kind) {
                case 0 -> setCost(anyNumber(), anyNumber());
                case 1, 2 -> term(anyNumber(), anyNumber());
                case 3 -> end(anyNumber());
                case 4 -> run(anyNumber());
                case 5 -> poke(anyNumber(), anyNumber());
                case 6 -> cut(below(10) == 0 ? anyNumber() : model.logSize() - below(3));
                case 7 -> check(anyNumber());
                case 8 -> check(1 + below(5));
                case 9 -> poke(model.logSize() - below(3), below(18) - 1);
                default -> look(anyNumber());
            }
        }
    }

    private void compareWithAllAssignments() {
        build(6 + below(6), below(2) == 0 ? 9 : 3000);
        if (searchOn() != 1) {
            return;
        }
        int least = -1;
        for (int ones = 0; ones < 65536; ones++) {
            if ((least == -1 || model.costOfOnes(ones) < least) && model.fulfils(ones)) {
                least = model.costOfOnes(ones);
            }
        }
        same("optimum()", least, made.optimum());
        same("check(2000)", 1, made.check(2000));
    }
}
