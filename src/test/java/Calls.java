/** Plays calls that are written as texts, such as "setCost(1, 32768) = BAD", on one object. */
final class Calls {
    private static final int NO_WORD = -9;

    private final Due due;
    private final String about;
    private final LeastCost object;

    Calls(Due due, String about, LeastCost object) {
        this.due = due;
        this.about = about;
        this.object = object;
    }

    /** Each text is a call and the answer that is due. */
    Calls due(String... texts) {
        for (String text : texts) {
            int equals = text.indexOf('=');
            String call = text.substring(0, equals).trim();
            int want = number(text.substring(equals + 1).trim());
            due.is(about + ": " + call, want, answer(call));
        }
        return this;
    }

    /** The whole log has these words, and no word before or behind them. */
    Calls log(int... words) {
        due.is(about + ": logSize()", words.length, object.logSize());
        for (int i = 0; i < words.length; i++) {
            due.is(about + ": logAt(" + i + ")", words[i], object.logAt(i));
        }
        due.is(about + ": logAt(-1)", NO_WORD, object.logAt(-1));
        due.is(about + ": logAt(size)", NO_WORD, object.logAt(words.length));
        return this;
    }

    /** Writes these words as the log of a search that is done. */
    Calls write(int... words) {
        due("cut(0) = 0");
        for (int i = 0; i < words.length; i++) {
            due("poke(" + i + ", " + words[i] + ") = 0");
        }
        return this;
    }

    private int answer(String call) {
        int open = call.indexOf('(');
        String name = call.substring(0, open);
        String inside = call.substring(open + 1, call.indexOf(')'));
        String[] texts = inside.isEmpty() ? new String[0] : inside.split(", ");
        int[] numbers = new int[texts.length];
        for (int i = 0; i < texts.length; i++) {
            numbers[i] = number(texts[i]);
        }
        return answer(name, numbers);
    }

    private int answer(String name, int[] numbers) {
        return switch (name) {
            case "setCost" -> object.setCost(numbers[0], numbers[1]);
            case "term" -> object.term(numbers[0], numbers[1]);
            case "end" -> object.end(numbers[0]);
            case "run" -> object.run(numbers[0]);
            case "optimum" -> object.optimum();
            case "value" -> object.value(numbers[0]);
            case "logSize" -> object.logSize();
            case "logAt" -> object.logAt(numbers[0]);
            case "poke" -> object.poke(numbers[0], numbers[1]);
            case "cut" -> object.cut(numbers[0]);
            case "check" -> object.check(numbers[0]);
            case "steps" -> object.steps();
            default -> throw new IllegalArgumentException(name);
        };
    }

    /** The document's numbers, not the class's constants: those may be wrong too. */
    private static int number(String text) {
        return switch (text) {
            case "BAD" -> -1;
            case "NO_ROOM" -> -2;
            case "NOT_DONE" -> -3;
            case "MORE" -> 2;
            case "LEAST" -> Integer.MIN_VALUE;
            case "MOST" -> Integer.MAX_VALUE;
            default -> Integer.parseInt(text);
        };
    }
}
