import java.util.NoSuchElementException;
import java.util.function.Consumer;

/** Tests of single sentences of the document: each has a name, a new junction, and answers that are due. */
final class Sentences {
    static final Class<IndexOutOfBoundsException> NO_INDEX = IndexOutOfBoundsException.class;
    static final Class<IllegalArgumentException> BAD = IllegalArgumentException.class;
    static final Class<UnsupportedOperationException> REFUSED = UnsupportedOperationException.class;
    static final Class<NoSuchElementException> NONE = NoSuchElementException.class;
    static final Class<IllegalStateException> NO_STATE = IllegalStateException.class;
    static final Class<ArithmeticException> NO_MEAN = ArithmeticException.class;
    static final int[] NO_LINES = {-1, 7, 8, Integer.MIN_VALUE, Integer.MAX_VALUE};
    static final int[] NO_PLATFORMS = {-1, 4, 5, Integer.MIN_VALUE, Integer.MAX_VALUE};

    private final Check check = new Check();
    private String sentence = "";
    private int tests = 0;
    private int answers = 0;

    void test(String name, Consumer<WhistleJunction> calls) {
        sentence = name;
        answers = 0;
        tests++;
        WhistleJunction junction = new WhistleJunction();
        check.due(name + ": the calls ahead", "went", () -> {
            calls.accept(junction);
            return answers > 0 ? "went" : "asked nothing";
        });
    }

    void due(Object due, Check.Call call) {
        answers++;
        check.due(sentence + ": answer " + answers, due, call);
    }

    void fails(Class<? extends RuntimeException> due, Check.Call call) {
        answers++;
        check.fails(sentence + ": answer " + answers, due, call);
    }

    void refused(WhistleJunction junction, int reason, int detail, Check.Call call) {
        fails(REFUSED, call);
        due(reason, () -> junction.refusal(false));
        due(detail, () -> junction.refusal(true));
    }

    /** What is due of a number of a line, for each line. */
    void dueOfLines(WhistleJunction junction, int what, int... dues) {
        for (int i = 0; i < dues.length; i++) {
            int line = i;
            due(dues[i], () -> junction.lineOf(line, what));
        }
    }

    /** The calls throw, and nothing that can be asked is another answer after them, but for the refusal. */
    void leavesAll(WhistleJunction junction, Check.Call... calls) {
        String before = Check.everything(junction);
        for (Check.Call call : calls) {
            due(true, () -> String.valueOf(Check.answerOf(call)).startsWith("throws."));
        }
        due(before, () -> Check.everything(junction));
    }

    /** Tells the lines from 0 on their signs; a line without a word gets none. */
    static void tell(WhistleJunction junction, String... words) {
        for (int line = 0; line < words.length; line++) {
            if (!words[line].isEmpty()) {
                Check.sign(junction, line, words[line]);
            }
        }
    }

    /** Lets these letters, 42 at most, be heard as whistles of lines that have no sign any more. */
    static void sound(WhistleJunction junction, String letters) {
        // Six long whistles take 12 steam, which a line has after one hour.
        junction.hour();
        for (int line = 0; line * 6 < letters.length(); line++) {
            Check.sign(junction, line, letters.substring(line * 6, Math.min(letters.length(), line * 6 + 6)));
            junction.whistle(line);
            junction.unsign(line);
        }
    }

    /** The most letters that can be heard in one hour: 798, all s, in 140 echoes and 7 whistles, and no sign is left. */
    static void soundMost(WhistleJunction junction) {
        hours(junction, 5);
        String[] words = {"ss", "ssss", "ssssss", "ssssss", "ssssss", "ssssss"};
        for (int delay = 5; delay >= 0; delay--) {
            for (int platform = 0; platform < 4; platform++) {
                junction.platform(platform, delay, 127);
            }
            for (int line = 0; line < 7; line++) {
                Check.sign(junction, line, words[delay]);
                junction.whistle(line);
                junction.unsign(line);
            }
            if (delay > 0) {
                junction.hour();
            }
        }
    }

    static void hours(WhistleJunction junction, int number) {
        for (int i = 0; i < number; i++) {
            junction.hour();
        }
    }

    void end(String name) {
        System.out.print(tests + " tests of sentences; ");
        check.end(name);
    }
}
