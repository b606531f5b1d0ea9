import java.util.function.Consumer;

/** Promises 36 to 38: undo and snapshot. */
public final class UndoTest {
    private static final Class<IllegalStateException> NONE = IllegalStateException.class;
    private static final Check check = new Check();

    public static void main(String[] args) {
        promise36EachChange();
        promise36AtMostEight();
        promise36NoChanges();
        promise37Snapshot();
        promise38Restore();
        promise38RestoreAgain();
        check.end("UndoTest");
    }

    private static void promise36EachChange() {
        dueUndone("sign", x -> x.sign(1, 2, 2));
        dueUndone("sign in place of another", x -> x.sign(0, 2, 3));
        dueUndone("unsign", x -> x.unsign(0));
        dueUndone("priority", x -> x.priority(0, 4));
        dueUndone("platform", x -> x.platform(1, 3, 4));
        dueUndone("whistle", x -> x.whistle(0));
        dueUndone("lie", x -> x.lie(5, 0));
        dueUndone("expose", x -> x.expose(6));
        dueUndone("mute", x -> x.mute(4, 2));
        dueUndone("fine", x -> x.fine(2));
        dueUndone("hour with an echo", x -> x.hour());
        dueUndone("read", x -> Check.read(x, "h;w0;p3=3;h"));
    }

    private static void dueUndone(String what, Consumer<WhistleJunction> change) {
        WhistleJunction x = new WhistleJunction();
        Check.sign(x, 0, "ls");
        x.platform(1, 1, 127);
        x.lie(6, 0);
        x.hour();
        x.lie(6, 0);
        x.mute(2, 2);
        String state = Check.state(x);
        change.accept(x);
        check.due("36: one more by " + what, 7, () -> x.account(15));
        String changed = Check.state(x);
        check.due("36: changed by " + what, false, () -> changed.equals(state));
        check.due("36: undo of " + what, 6, () -> x.undo());
        check.due("36: undone " + what, state, () -> Check.state(x));
    }

    private static void promise36AtMostEight() {
        WhistleJunction x = new WhistleJunction();
        for (int i = 1; i <= 12; i++) {
            int due = Math.min(i, 8);
            x.hour();
            check.due("36: changes of " + i, due, () -> x.account(15));
        }
        for (int i = 7; i >= 5; i--) {
            int due = i;
            check.due("36: left", due, () -> x.undo());
        }
        check.due("36: the hour", 9, () -> x.account(0));
        x.platform(0, 1, 1);
        x.platform(0, 1, 1);
        x.platform(0, 1, 1);
        x.platform(0, 1, 1);
        check.due("36: of those before only seven", 8, () -> x.account(15));
        for (int i = 7; i >= 0; i--) {
            int due = i;
            check.due("36: left again", due, () -> x.undo());
        }
        check.due("36: the oldest hour", 5, () -> x.account(0));
        check.fails("36: none", NONE, () -> x.undo());
        check.due("36: still that hour", 5, () -> x.account(0));
    }

    private static void promise36NoChanges() {
        WhistleJunction x = new WhistleJunction();
        Check.sign(x, 0, "s");
        Check.answerOf(() -> x.sign(0, 1, 0));
        Check.answerOf(() -> x.whistle(1));
        Check.answerOf(() -> x.priority(0, 0));
        Check.answerOf(() -> x.expose(0));
        Check.answerOf(() -> x.fine(0));
        Check.answerOf(() -> x.mute(0, 10));
        Check.answerOf(() -> x.platform(0, 6, 0));
        Check.read(x, "w1");
        Check.read(x, "w");
        x.append('h');
        x.snapshot();
        x.text(0);
        x.strip();
        x.isRight();
        check.due("36: only sign is one", 1, () -> x.account(15));
        check.due("36: undo", 0, () -> x.undo());
        check.due("36: the buffer is not undone", 1, () -> x.account(14));
        Check.sign(x, 1, "s");
        x.clear();
        check.fails("36: not after clear", NONE, () -> x.undo());
    }

    private static void promise37Snapshot() {
        WhistleJunction x = new WhistleJunction();
        check.due("37: without signs", 0, () -> x.snapshot());
        fill(x);
        String state = Check.state(x);
        check.due("37: its answer", 2, () -> x.snapshot());
        check.due("37: it changes nothing", state, () -> Check.state(x));
        check.due("37: changes can still be undone", 7, () -> x.undo());
        x.unsign(0);
        x.hour();
        check.due("37: what is done later stays out", 2, () -> x.restore());
        check.due("37: it replaces the earlier one", state, () -> Check.state(x));
    }

    private static void fill(WhistleJunction x) {
        Check.sign(x, 0, "ls");
        Check.sign(x, 4, "s");
        x.platform(1, 1, 127);
        x.platform(2, 3, 127);
        x.priority(4, 6);
        x.whistle(0);
        x.lie(3, 4);
        x.expose(3);
        x.hour();
        x.whistle(4);
        x.lie(5, 0);
        x.mute(6, 2);
        x.fine(6);
        x.mute(6, 3);
    }

    private static void promise38Restore() {
        WhistleJunction x = new WhistleJunction();
        check.fails("38: none", NONE, () -> x.restore());
        fill(x);
        String state = Check.state(x);
        x.snapshot();
        x.hour();
        x.hour();
        x.unsign(0);
        Check.append(x, "h;");
        check.due("38: signs then", 2, () -> x.restore());
        check.due("38: all that", state, () -> Check.state(x));
        check.due("38: the buffer is not restored", 2, () -> x.account(14));
        check.fails("38: nothing to undo", NONE, () -> x.undo());
    }

    private static void promise38RestoreAgain() {
        WhistleJunction x = new WhistleJunction();
        fill(x);
        String state = Check.state(x);
        x.snapshot();
        x.restore();
        x.clear();
        check.due("38: after clear", 2, () -> x.restore());
        x.hour();
        check.due("38: a change after it", 1, () -> x.account(15));
        check.due("38: can be undone", 0, () -> x.undo());
        check.due("38: to the snapshot", state, () -> Check.state(x));
    }
}
