import java.util.NoSuchElementException;

/** Promises 1 to 11: the object, signs, lines and platforms. */
public final class SignsTest {
    private static final Class<IndexOutOfBoundsException> NO_INDEX = IndexOutOfBoundsException.class;
    private static final Class<IllegalArgumentException> BAD = IllegalArgumentException.class;
    private static final Class<UnsupportedOperationException> REFUSED = UnsupportedOperationException.class;
    private static final int[] NO_LINES = {-1, 7, Integer.MIN_VALUE, Integer.MAX_VALUE};
    private static final Check check = new Check();

    public static void main(String[] args) {
        promise1NewObject();
        promise2Clear();
        promise3Sign();
        promise4Unsign();
        promise5Priority();
        promise6Platform();
        promise7LineOf();
        promise8PlatformOf();
        promise9Clash();
        promise10IsClear();
        promise11Free();
        check.end("SignsTest");
    }

    private static void promise1NewObject() {
        WhistleJunction x = new WhistleJunction();
        int[] accounts = {0, 0, 0, 0, 0, 0, 0, 0, 0, 0, 0, 70, 70, 0, 0, 0};
        for (int what = 0; what < accounts.length; what++) {
            int asked = what;
            check.due("1: account " + what, accounts[what], () -> x.account(asked));
        }
        int[] numbers = {0, 0, 0, 10, 10, 0, 0, 0, 0, 0};
        for (int line = 0; line < 7; line++) {
            for (int what = 0; what < numbers.length; what++) {
                int of = line;
                int asked = what;
                check.due("1: lineOf " + line + " " + what, numbers[what], () -> x.lineOf(of, asked));
            }
        }
        for (int i = 0; i < 16; i++) {
            int platform = i / 4;
            int what = i % 4;
            check.due("1: platformOf " + platform + " " + what, 0, () -> x.platformOf(platform, what));
        }
        check.due("1: way", -1, () -> x.way());
        check.due("1: isClear", true, () -> x.isClear());
        check.due("1: isRight", true, () -> x.isRight());
        check.due("1: ways", 1, () -> x.ways(false));
        check.due("1: ways again", 1, () -> x.ways(true));
        check.due("1: free", 64, () -> x.free(6, false));
        check.fails("1: errorPosition", NoSuchElementException.class, () -> x.errorPosition());
        check.fails("1: refusedItem", NoSuchElementException.class, () -> x.refusedItem());
        check.fails("1: refusal", IllegalStateException.class, () -> x.refusal(false));
        check.fails("1: undo", IllegalStateException.class, () -> x.undo());
        check.fails("1: restore", IllegalStateException.class, () -> x.restore());
        check.fails("1: character", NO_INDEX, () -> x.character(0));
    }

    private static void promise2Clear() {
        WhistleJunction x = new WhistleJunction();
        check.due("2: clear of a new one", 0, () -> x.clear());
        String fresh = Check.state(x);
        Check.sign(x, 0, "ls");
        Check.sign(x, 3, "s");
        x.snapshot();
        x.priority(2, 5);
        x.platform(1, 2, 127);
        x.whistle(0);
        x.lie(1, 3);
        x.expose(1);
        x.mute(4, 2);
        x.fine(4);
        Check.read(x, "s");
        Check.read(x, "h;u6");
        x.hour();
        x.hour();
        x.platform(0, 1, 127);
        x.whistle(0);
        x.hour();
        check.due("2: an echo gets the way", -2, () -> x.hour());
        x.lie(2, 0);
        int written = x.text(0);
        Check.append(x, "h;h");
        check.due("2: clear", 2, () -> x.clear());
        check.due("2: state", fresh, () -> Check.state(x));
        check.due("2: nothing to undo", 0, () -> x.account(15));
        check.fails("2: undo", IllegalStateException.class, () -> x.undo());
        check.due("2: the buffer stays", 3, () -> x.account(14));
        check.due("2: the error position stays", 1, () -> x.errorPosition());
        check.due("2: the refused item stays", 1, () -> x.refusedItem());
        check.due("2: the refusal stays", "2:2", () -> Check.refusal(x));
        check.due("2: the line of text stays", "0:ls/0*12", () -> Check.written(x, written));
        check.due("2: the snapshot stays", 2, () -> x.restore());
        check.due("2: its signs", 2, () -> x.lineOf(0, 0));
    }

    private static void promise3Sign() {
        WhistleJunction x = new WhistleJunction();
        check.due("3: s", 1, () -> x.sign(0, 1, 0));
        check.due("3: l", 2, () -> x.sign(6, 1, 1));
        check.due("3: lsl", 5, () -> x.sign(1, 3, 5));
        check.due("3: llllll", 12, () -> x.sign(2, 6, 63));
        check.due("3: ssssss", 6, () -> x.sign(3, 6, 0));
        check.due("3: in place of an older one", 3, () -> x.sign(3, 2, 1));
        check.due("3: its length", 2, () -> x.lineOf(3, 0));
        check.due("3: the first letter is bit 0", "3:ls/0*10", () -> Check.written(x, x.text(3)));
        check.due("3: the older one is free again", 6, () -> x.sign(4, 6, 0));
        check.due("3: changes", 7, () -> x.account(15));
        check.due("3: lines with signs", 6, () -> x.account(1));
        String state = Check.state(x);
        check.fails("3: the sign of another line", REFUSED, () -> x.sign(5, 3, 5));
        check.due("3: reason 1", "1:1", () -> Check.refusal(x));
        check.fails("3: the sign told again", REFUSED, () -> x.sign(2, 6, 63));
        check.due("3: reason 1 again", "1:2", () -> Check.refusal(x));
        for (int line : NO_LINES) {
            check.fails("3: line " + line, NO_INDEX, () -> x.sign(line, 1, 0));
            check.fails("3: line and length " + line, NO_INDEX, () -> x.sign(line, 0, 0));
        }
        for (int length : new int[] {-1, 0, 7, 31, 32, 33, Integer.MIN_VALUE, Integer.MAX_VALUE}) {
            check.fails("3: length " + length, BAD, () -> x.sign(5, length, 0));
        }
        for (int length = 1; length <= 6; length++) {
            int of = length;
            check.fails("3: bits for " + length, BAD, () -> x.sign(5, of, 1 << of));
            check.fails("3: bits below 0 for " + length, BAD, () -> x.sign(5, of, -1));
        }
        check.due("3: nothing changed", state, () -> Check.state(x));
        check.due("3: nothing more to undo", 7, () -> x.account(15));
        check.due("3: the refusal is kept", "1:2", () -> Check.refusal(x));
    }

    private static void promise4Unsign() {
        WhistleJunction x = new WhistleJunction();
        check.fails("4: none", REFUSED, () -> x.unsign(3));
        check.due("4: reason 2 of none", "2:0", () -> Check.refusal(x));
        Check.sign(x, 0, "s");
        Check.sign(x, 6, "l");
        check.fails("4: no sign", REFUSED, () -> x.unsign(3));
        check.due("4: reason 2", "2:2", () -> Check.refusal(x));
        check.due("4: unsign", 1, () -> x.unsign(0));
        check.due("4: no length", 0, () -> x.lineOf(0, 0));
        check.due("4: the last one", 0, () -> x.unsign(6));
        check.due("4: no bits", 0, () -> x.lineOf(6, 1));
        check.due("4: changes", 4, () -> x.account(15));
        for (int line : NO_LINES) {
            check.fails("4: line " + line, NO_INDEX, () -> x.unsign(line));
        }
    }

    private static void promise5Priority() {
        WhistleJunction x = new WhistleJunction();
        check.due("5: the one before", 0, () -> x.priority(2, 9));
        check.due("5: the one before again", 9, () -> x.priority(2, 4));
        check.due("5: it is told", 4, () -> x.lineOf(2, 2));
        check.fails("5: the same", REFUSED, () -> x.priority(2, 4));
        check.due("5: reason 3", "3:4", () -> Check.refusal(x));
        check.due("5: back to 0", 4, () -> x.priority(2, 0));
        check.fails("5: 0 told again", REFUSED, () -> x.priority(2, 0));
        check.due("5: reason 3 of 0", "3:0", () -> Check.refusal(x));
        for (int priority : new int[] {-1, 10, Integer.MIN_VALUE, Integer.MAX_VALUE}) {
            check.fails("5: priority " + priority, BAD, () -> x.priority(2, priority));
        }
        for (int line : NO_LINES) {
            check.fails("5: line " + line, NO_INDEX, () -> x.priority(line, 10));
        }
        check.due("5: changes", 3, () -> x.account(15));
    }

    private static void promise6Platform() {
        WhistleJunction x = new WhistleJunction();
        check.due("6: one", 1, () -> x.platform(3, 5, 127));
        check.due("6: two", 2, () -> x.platform(0, 1, 0));
        check.due("6: without a delay", 2, () -> x.platform(1, 0, 127));
        check.due("6: the same is a change", 2, () -> x.platform(1, 0, 127));
        check.due("6: changes", 4, () -> x.account(15));
        check.due("6: the delay taken away", 1, () -> x.platform(3, 0, 5));
        check.due("6: its lines", 5, () -> x.platformOf(3, 1));
        for (int number : new int[] {-1, 6, Integer.MIN_VALUE, Integer.MAX_VALUE}) {
            check.fails("6: delay " + number, BAD, () -> x.platform(0, number, 0));
        }
        for (int number : new int[] {-1, 128, Integer.MIN_VALUE, Integer.MAX_VALUE}) {
            check.fails("6: lines " + number, BAD, () -> x.platform(0, 0, number));
        }
        for (int number : new int[] {-1, 4, Integer.MIN_VALUE, Integer.MAX_VALUE}) {
            check.fails("6: platform " + number, NO_INDEX, () -> x.platform(number, 9, 999));
        }
        check.due("6: all is as before", 1, () -> x.platformOf(0, 0));
    }

    private static void promise7LineOf() {
        WhistleJunction x = new WhistleJunction();
        Check.sign(x, 0, "lls");
        Check.sign(x, 1, "s");
        x.priority(0, 7);
        x.whistle(0);
        x.hour();
        x.lie(0, 1);
        x.expose(0);
        x.mute(1, 4);
        int[] due = {3, 3, 7, 5, 13, 3, 1, 1, 1, 1};
        int[] dueOfMuted = {1, 0, 0, 12, 10, 4, 0, 0, 0, 0};
        for (int what = 0; what < 10; what++) {
            int asked = what;
            check.due("7: line 0, " + what, due[what], () -> x.lineOf(0, asked));
            check.due("7: line 1, " + what, dueOfMuted[what], () -> x.lineOf(1, asked));
        }
        x.hour();
        check.due("7: not in this hour", 0, () -> x.lineOf(0, 9));
        for (int what : new int[] {-1, 10, Integer.MIN_VALUE, Integer.MAX_VALUE}) {
            check.fails("7: what " + what, BAD, () -> x.lineOf(0, what));
        }
        for (int line : NO_LINES) {
            check.fails("7: line " + line, NO_INDEX, () -> x.lineOf(line, 10));
        }
    }

    private static void promise8PlatformOf() {
        WhistleJunction x = new WhistleJunction();
        Check.sign(x, 2, "s");
        x.platform(3, 2, 4);
        x.platform(1, 1, 6);
        x.whistle(2);
        check.due("8: delay", 2, () -> x.platformOf(3, 0));
        check.due("8: lines", 4, () -> x.platformOf(3, 1));
        check.due("8: none heard", 0, () -> x.platformOf(3, 2));
        check.due("8: to come", 1, () -> x.platformOf(3, 3));
        check.due("8: to come of a platform without any", 0, () -> x.platformOf(0, 3));
        x.hour();
        x.lie(1, 2);
        check.due("8: one heard", 1, () -> x.platformOf(1, 2));
        check.due("8: one to come again", 1, () -> x.platformOf(1, 3));
        check.due("8: still to come", 1, () -> x.platformOf(3, 3));
        x.hour();
        check.due("8: two heard", 2, () -> x.platformOf(1, 2));
        check.due("8: heard at last", 1, () -> x.platformOf(3, 2));
        check.due("8: none to come", 0, () -> x.platformOf(3, 3));
        for (int what : new int[] {-1, 4, Integer.MIN_VALUE, Integer.MAX_VALUE}) {
            check.fails("8: what " + what, BAD, () -> x.platformOf(0, what));
        }
        for (int platform : new int[] {-1, 4, Integer.MIN_VALUE, Integer.MAX_VALUE}) {
            check.fails("8: platform " + platform, NO_INDEX, () -> x.platformOf(platform, 4));
        }
    }

    private static void promise9Clash() {
        WhistleJunction x = new WhistleJunction();
        Check.sign(x, 0, "l");
        Check.sign(x, 1, "lsl");
        Check.sign(x, 2, "sl");
        check.due("9: begins", 1, () -> x.clash(0, 1));
        check.due("9: is begun", 2, () -> x.clash(1, 0));
        check.due("9: one line", 3, () -> x.clash(1, 1));
        check.due("9: an end is no beginning", 0, () -> x.clash(2, 1));
        check.due("9: one line without a sign", 0, () -> x.clash(3, 3));
        check.due("9: no sign", 0, () -> x.clash(0, 3));
        check.due("9: no sign of the one", 0, () -> x.clash(3, 0));
        for (int line : NO_LINES) {
            check.fails("9: one " + line, NO_INDEX, () -> x.clash(line, 0));
            check.fails("9: other " + line, NO_INDEX, () -> x.clash(0, line));
        }
    }

    private static void promise10IsClear() {
        WhistleJunction x = new WhistleJunction();
        check.due("10: without signs", true, () -> x.isClear());
        Check.sign(x, 4, "ls");
        check.due("10: one sign", true, () -> x.isClear());
        Check.sign(x, 5, "ss");
        check.due("10: two that differ", true, () -> x.isClear());
        Check.sign(x, 0, "lss");
        check.due("10: an earlier line is begun", false, () -> x.isClear());
        Check.sign(x, 0, "sl");
        check.due("10: clear again", true, () -> x.isClear());
        Check.sign(x, 6, "ssl");
        check.due("10: a later line is begun", false, () -> x.isClear());
    }

    private static void promise11Free() {
        WhistleJunction x = new WhistleJunction();
        int[] all = {2, 4, 8, 16, 32, 64};
        dueFree(x, all, "none");
        Check.sign(x, 3, "ls");
        dueFree(x, new int[] {1, 3, 6, 12, 24, 48}, "ls");
        Check.sign(x, 1, "lsll");
        dueFree(x, new int[] {1, 3, 6, 12, 24, 48}, "one within another");
        Check.sign(x, 5, "slsl");
        dueFree(x, new int[] {0, 2, 5, 11, 22, 44}, "another");
        Check.sign(x, 0, "slss");
        dueFree(x, new int[] {0, 2, 5, 10, 20, 40}, "two with one beginning");
        Check.sign(x, 2, "s");
        dueFree(x, new int[] {0, 1, 2, 4, 8, 16}, "a beginning of two");
        for (int length : new int[] {-1, 0, 7, 32, Integer.MIN_VALUE, Integer.MAX_VALUE}) {
            check.fails("11: length " + length, BAD, () -> x.free(length, false));
            check.fails("11: length again " + length, BAD, () -> x.free(length, true));
        }
    }

    private static void dueFree(WhistleJunction x, int[] due, String signs) {
        for (int length = 1; length <= 6; length++) {
            int of = length;
            check.due("11: " + signs + ", length " + length, due[length - 1], () -> x.free(of, false));
            check.due("11: " + signs + ", length again " + length, due[length - 1], () -> x.free(of, true));
        }
    }
}
