import java.util.NoSuchElementException;

/** Promises 32 to 35: the input. */
public final class InputTest {
    private static final Class<IllegalArgumentException> BAD = IllegalArgumentException.class;
    private static final Class<NoSuchElementException> NONE = NoSuchElementException.class;
    private static final String IS_BAD = "throws.java.lang.IllegalArgumentException";
    private static final String IS_REFUSED = "throws.java.lang.UnsupportedOperationException";
    private static final Check check = new Check();

    public static void main(String[] args) {
        promise32Append();
        promise33Read();
        promise33AllOrNone();
        promise33EachOrder();
        promise34ErrorPosition();
        promise35RefusedItem();
        check.end("InputTest");
    }

    private static void promise32Append() {
        WhistleJunction x = new WhistleJunction();
        check.due("32: nothing", 0, () -> x.append(0));
        check.due("32: four", 4, () -> x.append('s' << 24 | '0' << 16 | ':' << 8 | 'l'));
        check.due("32: zeros are skipped", 6, () -> x.append('l' << 16 | 's'));
        check.due("32: read in order", 1, () -> x.read());
        check.due("32: the word", "0:lls/0*10", () -> Check.written(x, x.text(0)));
        int[] bad = {1, 31, 127, 128, 255, -1, 31 << 8, 127 << 16, 200 << 24, 'h' << 24 | 10, 'h' << 8 | 255 << 16};
        for (int packed : bad) {
            check.fails("32: packed " + packed, BAD, () -> x.append(packed));
        }
        check.due("32: nothing was appended", 0, () -> x.account(14));
        check.due("32: the lowest and highest codes", 2, () -> x.append(' ' << 24 | '~'));
        for (int i = 0; i < 14; i++) {
            x.append('h' << 24 | 'h' << 16 | 'h' << 8 | 'h');
        }
        check.due("32: 58", 58, () -> x.account(14));
        check.fails("32: too many", IllegalStateException.class, () -> x.append('h' << 24 | 'h' << 16 | 'h'));
        check.fails("32: a bad one first", BAD, () -> x.append('h' << 24 | 'h' << 16 | 'h' << 8 | 1));
        check.due("32: still 58", 58, () -> x.account(14));
        check.due("32: full", 60, () -> x.append('h' << 24 | 'h' << 8));
        check.fails("32: one too many", IllegalStateException.class, () -> x.append('h'));
        check.due("32: none more", 60, () -> x.append(0));
    }

    private static void promise33Read() {
        WhistleJunction x = new WhistleJunction();
        check.due("33: two orders", 2, () -> Check.read(x, "h;h"));
        check.due("33: carried out", 2, () -> x.account(0));
        check.due("33: the buffer is empty", 0, () -> x.account(14));
        check.due("33: one change", 1, () -> x.account(15));
        check.due("33: as many as fit", 30, () -> Check.read(x, "h;".repeat(29) + "h"));
        check.due("33: the hours", 32, () -> x.account(0));
        check.due("33: malformed", IS_BAD, () -> Check.read(x, "h;h;"));
        check.due("33: empty after it", 0, () -> x.account(14));
        check.due("33: refused", IS_REFUSED, () -> Check.read(x, "h;w7"));
        check.due("33: empty after that", 0, () -> x.account(14));
        check.due("33: no hour went by", 32, () -> x.account(0));
        check.due("33: malformed is asked first", IS_BAD, () -> Check.read(x, "w7;;"));
        check.due("33: changes", 2, () -> x.account(15));
        check.due("33: empty input", IS_BAD, () -> Check.answerOf(() -> x.read()));
        x.undo();
        check.due("33: undone as one", 2, () -> x.account(0));
    }

    private static void promise33AllOrNone() {
        WhistleJunction x = new WhistleJunction();
        for (int i = 0; i < 9; i++) {
            x.hour();
        }
        String state = Check.state(x);
        check.due("33: some orders would go", IS_REFUSED, () -> Check.read(x, "s0:ll;p0=3;w0;l1>0;x1;m2:2;f2;h;w0;w0"));
        check.due("33: none did", state, () -> Check.state(x));
        check.due("33: which one", 9, () -> x.refusedItem());
        check.due("33: refused in the state of then", "5:10", () -> Check.refusal(x));
        check.due("33: all can still be undone", 8, () -> x.account(15));
        x.undo();
        check.due("33: the one before", 8, () -> x.account(0));
        for (int i = 0; i < 7; i++) {
            x.undo();
        }
        check.due("33: the oldest one", 1, () -> x.account(0));
    }

    private static void promise33EachOrder() {
        WhistleJunction x = new WhistleJunction();
        check.due("33: signs", 3, () -> Check.read(x, "s0:lls;s6:s;s5:slslsl"));
        check.due("33: the sign", "0:lls/0*10", () -> Check.written(x, x.text(0)));
        check.due("33: of six letters", "5:slslsl/0*10", () -> Check.written(x, x.text(5)));
        Check.read(x, "u5");
        check.due("33: taken away", 0, () -> x.lineOf(5, 0));
        Check.read(x, "p3=9;p4=0;");
        Check.read(x, "p3=9");
        check.due("33: a priority", 9, () -> x.lineOf(3, 2));
        Check.read(x, "w0;l3>6");
        check.due("33: whistles", 2, () -> x.account(6));
        check.due("33: who lied", 3, () -> x.heard(1, 1));
        check.due("33: as whom", 6, () -> x.heard(1, 0));
        Check.read(x, "x3;m1:5");
        check.due("33: exposed", 3, () -> x.lineOf(3, 5));
        check.due("33: muted", 5, () -> x.lineOf(1, 5));
        Check.read(x, "f1;h");
        check.due("33: fined", 0, () -> x.lineOf(1, 4));
        check.due("33: passed", 1, () -> x.lineOf(0, 6));
        int[] due = {1, 3, 7, 8, 8, 2, 2};
        String[] refused = {"s1:lls", "p3=9", "x0", "f2", "f4", "u2", "w2"};
        for (int i = 0; i < refused.length; i++) {
            String order = refused[i];
            check.due("33: refused " + order, IS_REFUSED, () -> Check.read(x, order));
            int reason = due[i];
            check.due("33: for", reason, () -> x.refusal(false));
        }
        for (String order : new String[] {"s7:l", "u9", "p8=0", "w7", "l0>0", "l7>0", "l0>8", "x7", "m0:0", "m7:1", "f9"}) {
            check.due("33: wrong number " + order, IS_REFUSED, () -> Check.read(x, order));
        }
        check.due("33: the refusal before stays", "2:2", () -> Check.refusal(x));
    }

    private static void promise34ErrorPosition() {
        WhistleJunction x = new WhistleJunction();
        Check.read(x, "w0");
        check.fails("34: none was malformed", NONE, () -> x.errorPosition());
        String[] inputs = {"", " ", "a", "H", "0", ";", "h ", "hh", "h;", "h;;", "h;h;", "s", "sl", "s0", "s0=", "s0:",
            "s0:x", "s0:;", "s0:L", "s0:lx", "s0:llllll;", "s0:lllllll", "s0:llllllh", "u", "u:", "u10", "p3", "p3:",
            "p3=", "p3=a", "p3=10", "w", "w-", "w0:", "l0", "l0=", "l0>", "l0>x", "l0>1>", "x", "x0x", "m0", "m0=",
            "m0:", "m0:/", "m0:12", "f", "f/", "f0,", "h0", "w0;w", "s1:ls;h;u1;p2=3;q", "w0 ", "w:", "m5:5;;"};
        int[] due = {0, 0, 0, 0, 0, 0, 1, 1, 2, 2, 4, 1, 1, 2, 2, 3,
            3, 3, 3, 4, 10, 9, 9, 1, 1, 2, 2, 2,
            3, 3, 4, 1, 1, 2, 2, 2, 3, 3, 4, 1, 2, 2, 2,
            3, 3, 4, 1, 1, 2, 1, 4, 16, 2, 1, 5};
        for (int i = 0; i < inputs.length; i++) {
            String input = inputs[i];
            check.due("34: malformed '" + input + "'", IS_BAD, () -> Check.read(x, input));
            check.due("34: position in '" + input + "'", due[i], () -> x.errorPosition());
        }
        Check.read(x, "h");
        Check.read(x, "w0");
        x.undo();
        x.snapshot();
        x.restore();
        x.clear();
        check.due("34: whatever was read after it", 5, () -> x.errorPosition());
    }

    private static void promise35RefusedItem() {
        WhistleJunction x = new WhistleJunction();
        Check.read(x, "");
        Check.read(x, "h");
        Check.answerOf(() -> x.whistle(0));
        check.fails("35: none", NONE, () -> x.refusedItem());
        Check.read(x, "w0");
        check.due("35: the first", 0, () -> x.refusedItem());
        Check.read(x, "s0:l;w0;h;w7;w8");
        check.due("35: one with a wrong number", 3, () -> x.refusedItem());
        Check.read(x, "h");
        Check.read(x, "w");
        x.undo();
        x.snapshot();
        x.restore();
        x.clear();
        check.due("35: whatever was read after it", 3, () -> x.refusedItem());
        Check.read(x, "h;".repeat(28) + "u0");
        check.due("35: a late one", 28, () -> x.refusedItem());
    }
}
