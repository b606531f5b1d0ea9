/** Counts the answers of one test program that are not as due, and ends it. */
final class Check {
    interface Call {
        Object answer();
    }

    private int right = 0;
    private int wrong = 0;

    void due(String what, Object due, Call call) {
        Object got = answerOf(call);
        if (due.equals(got)) {
            right++;
        } else {
            wrong++;
            System.out.println(what + " answered " + got + ", due is " + due);
        }
    }

    /** The class must be the very one: what the machine throws is often of a class below it. */
    void fails(String what, Class<? extends RuntimeException> due, Call call) {
        due(what, "throws." + due.getName(), call);
    }

    static Object answerOf(Call call) {
        try {
            return call.answer();
        } catch (RuntimeException e) {
            return "throws." + e.getClass().getName();
        }
    }

    void end(String name) {
        System.out.println(name + ": " + right + " answers as due, " + wrong + " not");
        if (wrong > 0 || right == 0) {
            System.exit(1);
        }
    }

    static String written(WhistleJunction junction, int length) {
        StringBuilder text = new StringBuilder();
        for (int i = 0; i < length; i++) {
            text.append(junction.character(i));
        }
        return text.toString();
    }

    static void append(WhistleJunction junction, String text) {
        for (int i = 0; i < text.length(); i++) {
            junction.append(text.charAt(i));
        }
    }

    static Object read(WhistleJunction junction, String text) {
        append(junction, text);
        return answerOf(() -> junction.read());
    }

    /** Tells the sign that is written in letters. */
    static int sign(WhistleJunction junction, int line, String word) {
        int bits = 0;
        for (int i = 0; i < word.length(); i++) {
            bits |= word.charAt(i) == 'l' ? 1 << i : 0;
        }
        return junction.sign(line, word.length(), bits);
    }

    static String refusal(WhistleJunction junction) {
        return answerOf(() -> junction.refusal(false)) + ":" + answerOf(() -> junction.refusal(true));
    }

    /** All that can be asked about the state that changes change. */
    static String state(WhistleJunction junction) {
        StringBuilder all = new StringBuilder();
        for (int what = 0; what < 14; what++) {
            all.append(junction.account(what)).append(' ');
        }
        for (int line = 0; line < 7; line++) {
            for (int what = 0; what < 10; what++) {
                all.append(junction.lineOf(line, what)).append(',');
            }
        }
        for (int platform = 0; platform < 4; platform++) {
            for (int what = 0; what < 4; what++) {
                all.append(junction.platformOf(platform, what)).append(';');
            }
        }
        for (int place = 0; place < junction.account(3); place++) {
            for (int what = 0; what < 5; what++) {
                all.append(junction.heard(place, what)).append('.');
            }
        }
        return all.toString();
    }

    /** The line of text, asked until there is no character more. */
    static String line(WhistleJunction junction) {
        StringBuilder text = new StringBuilder();
        Object next = answerOf(() -> junction.character(0));
        while (next instanceof Character) {
            text.append(next);
            next = answerOf(() -> junction.character(text.length()));
        }
        return text.toString();
    }

    /** All that can be asked without changing anything, but the refusal. */
    static String everything(WhistleJunction junction) {
        return state(junction) + " buffer " + junction.account(14) + " changes " + junction.account(15)
            + " error " + answerOf(() -> junction.errorPosition()) + " item " + answerOf(() -> junction.refusedItem())
            + " line " + line(junction);
    }
}
