/** Promises 25 to 31: lines of text and accounts. */
public final class TextsTest {
    private static final Class<IndexOutOfBoundsException> NO_INDEX = IndexOutOfBoundsException.class;
    private static final Class<IllegalArgumentException> BAD = IllegalArgumentException.class;
    private static final Check check = new Check();

    public static void main(String[] args) {
        promise25Text();
        promise26Strip();
        promise27Character();
        promise28Refusal();
        promise29Account();
        promise30MeanLength();
        promise31LieShare();
        check.end("TextsTest");
    }

    private static void promise25Text() {
        WhistleJunction x = new WhistleJunction();
        check.due("25: length", 6, () -> x.text(4));
        check.due("25: plain", "4/0*10", () -> Check.written(x, x.text(4)));
        Check.sign(x, 3, "lls");
        x.priority(3, 5);
        x.hour();
        x.mute(3, 2);
        check.due("25: all parts", "3:lls/5*12!2", () -> Check.written(x, x.text(3)));
        Check.sign(x, 0, "slslss");
        x.whistle(0);
        check.due("25: a sign", "0:slslss/0*4", () -> Check.written(x, x.text(0)));
        x.lie(6, 3);
        x.mute(6, 9);
        x.expose(6);
        check.due("25: two digits", "6/0*2!12", () -> Check.written(x, x.text(6)));
        x.mute(5, 1);
        check.due("25: muted for one hour", "5/0*12!1", () -> Check.written(x, x.text(5)));
        x.text(6);
        for (int line : new int[] {-1, 7, Integer.MIN_VALUE, Integer.MAX_VALUE}) {
            check.fails("25: line " + line, NO_INDEX, () -> x.text(line));
        }
        check.due("25: the line of text stays", "6/0*2!12", () -> Check.written(x, 8));
        check.fails("25: and its end", NO_INDEX, () -> x.character(8));
    }

    private static void promise26Strip() {
        WhistleJunction x = new WhistleJunction();
        x.text(0);
        check.due("26: empty", 0, () -> x.strip());
        check.fails("26: in place of the line before", NO_INDEX, () -> x.character(0));
        Check.sign(x, 0, "lss");
        Check.sign(x, 1, "sl");
        x.platform(0, 1, 1);
        x.whistle(1);
        x.whistle(0);
        check.due("26: length", 5, () -> x.strip());
        check.due("26: in order", "sllss", () -> Check.written(x, 5));
        x.unsign(1);
        check.due("26: signs that changed", "sllss", () -> Check.written(x, x.strip()));
        x.hour();
        check.due("26: an echo", "lss", () -> Check.written(x, x.strip()));
    }

    private static void promise27Character() {
        WhistleJunction x = new WhistleJunction();
        check.fails("27: at first", NO_INDEX, () -> x.character(0));
        x.text(5);
        check.due("27: first", '5', () -> x.character(0));
        check.due("27: last", '0', () -> x.character(5));
        for (int index : new int[] {-1, 6, Integer.MIN_VALUE, Integer.MAX_VALUE}) {
            check.fails("27: index " + index, NO_INDEX, () -> x.character(index));
        }
        x.priority(5, 3);
        check.due("27: not written anew", '0', () -> x.character(2));
        x.undo();
        x.snapshot();
        x.restore();
        check.due("27: neither undone nor restored", "5/0*10", () -> Check.written(x, 6));
    }

    private static void promise28Refusal() {
        WhistleJunction x = new WhistleJunction();
        check.fails("28: no reason", IllegalStateException.class, () -> x.refusal(false));
        check.fails("28: no detail", IllegalStateException.class, () -> x.refusal(true));
        Check.answerOf(() -> x.sign(9, 1, 0));
        Check.answerOf(() -> x.priority(0, 10));
        check.fails("28: wrong numbers are no refusals", IllegalStateException.class, () -> x.refusal(false));
        Check.answerOf(() -> x.fine(0));
        check.due("28: reason", 8, () -> x.refusal(false));
        check.due("28: detail", 10, () -> x.refusal(true));
        Check.answerOf(() -> x.priority(0, 0));
        check.due("28: the latest", "3:0", () -> Check.refusal(x));
        x.priority(0, 1);
        x.undo();
        x.snapshot();
        x.restore();
        check.due("28: neither undone nor restored", "3:0", () -> Check.refusal(x));
    }

    private static void promise29Account() {
        WhistleJunction x = new WhistleJunction();
        Check.sign(x, 0, "s");
        Check.sign(x, 1, "ll");
        x.platform(0, 1, 1);
        x.platform(1, 3, 3);
        x.whistle(0);
        x.whistle(1);
        x.lie(2, 1);
        x.expose(2);
        x.mute(3, 1);
        x.mute(4, 4);
        x.fine(4);
        Check.append(x, "h;h");
        dueAccounts(x, new int[] {0, 2, 2, 2, 5, 3, 3, 1, 1, 0, 0, 57, 62, 8, 3, 8});
        x.read();
        dueAccounts(x, new int[] {2, 2, 1, 0, 0, 2, 3, 1, 1, 1, 1, 79, 65, 8, 0, 8});
        x.hour();
        dueAccounts(x, new int[] {3, 2, 0, 2, 3, 0, 3, 1, 1, 1, 1, 91, 65, 8, 0, 8});
        for (int what : new int[] {-1, 16, Integer.MIN_VALUE, Integer.MAX_VALUE}) {
            check.fails("29: what " + what, BAD, () -> x.account(what));
        }
    }

    private static void dueAccounts(WhistleJunction x, int[] due) {
        for (int i = 0; i < due.length; i++) {
            int what = i;
            check.due("29: in hour " + due[0] + ", " + what, due[what], () -> x.account(what));
        }
    }

    private static void promise30MeanLength() {
        WhistleJunction x = new WhistleJunction();
        check.fails("30: none", ArithmeticException.class, () -> x.meanLength());
        Check.sign(x, 0, "ll");
        check.due("30: of the line 0", 2.0, () -> x.meanLength());
        x.unsign(0);
        Check.sign(x, 2, "sls");
        check.due("30: one", 3.0, () -> x.meanLength());
        Check.sign(x, 4, "s");
        Check.sign(x, 6, "l");
        check.due("30: a fraction", 5.0 / 3.0, () -> x.meanLength());
        x.unsign(2);
        x.unsign(4);
        x.unsign(6);
        check.fails("30: none again", ArithmeticException.class, () -> x.meanLength());
    }

    private static void promise31LieShare() {
        WhistleJunction x = new WhistleJunction();
        check.fails("31: none", ArithmeticException.class, () -> x.lieShare());
        Check.sign(x, 0, "s");
        x.whistle(0);
        check.due("31: no lies", 0.0f, () -> x.lieShare());
        x.lie(1, 0);
        x.lie(2, 0);
        x.expose(2);
        check.due("31: a share", 2.0f / 3.0f, () -> x.lieShare());
        x.hour();
        check.due("31: so far", 2.0f / 3.0f, () -> x.lieShare());
    }
}
