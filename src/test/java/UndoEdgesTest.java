import java.util.function.Consumer;

/** Promises 36 to 38: a test for each sentence that names a boundary case. */
public final class UndoEdgesTest {
    private static final Sentences t = new Sentences();

    public static void main(String[] args) {
        promise36None();
        promise36EachChange();
        promise36NoChange();
        promise36AtMostEight();
        promise36WhatItUndoes();
        promise37Snapshot();
        promise37EverythingThatChangesCanChange();
        promise38Restore();
        promise38NoChangesAfterIt();
        t.end("UndoEdgesTest");
    }

    private static void promise36None() {
        t.test("36: there is none: at first", x -> t.fails(Sentences.NO_STATE, () -> x.undo()));
        t.test("36: there is none: after the only one was undone", x -> {
            x.hour();
            t.due(0, () -> x.undo());
            t.fails(Sentences.NO_STATE, () -> x.undo());
            t.due(0, () -> x.account(0));
        });
        t.test("36: there is none: after clear", x -> {
            x.hour();
            x.clear();
            t.fails(Sentences.NO_STATE, () -> x.undo());
        });
        t.test("36: there is none: after the latest eight were undone", x -> {
            Sentences.hours(x, 10);
            for (int left = 7; left >= 0; left--) {
                int due = left;
                t.due(due, () -> x.undo());
            }
            t.fails(Sentences.NO_STATE, () -> x.undo());
            t.due(2, () -> x.account(0));
        });
        t.test("36: a call that throws leaves the state unchanged", x -> t.leavesAll(x, () -> x.undo()));
    }

    /** A state in which each of the changes can be made. */
    private static void fill(WhistleJunction x) {
        Sentences.tell(x, "ls", "s");
        x.platform(1, 1, 127);
        x.platform(2, 3, 127);
        x.whistle(1);
        x.hour();
        x.lie(5, 1);
        x.mute(6, 2);
    }

    private static void dueUndone(String name, Consumer<WhistleJunction> change) {
        t.test("36: a change is " + name, x -> {
            fill(x);
            String before = Check.everything(x);
            change.accept(x);
            t.due(8, () -> x.account(15));
            t.due(7, () -> x.undo());
            t.due(before.replace(" changes 8 ", " changes 7 "), () -> Check.everything(x));
        });
    }

    private static void promise36EachChange() {
        dueUndone("sign", x -> x.sign(0, 1, 1));
        dueUndone("unsign", x -> x.unsign(0));
        dueUndone("priority", x -> x.priority(6, 9));
        dueUndone("platform", x -> x.platform(1, 0, 0));
        dueUndone("platform, told the same", x -> x.platform(1, 1, 127));
        dueUndone("whistle", x -> x.whistle(0));
        dueUndone("lie", x -> x.lie(4, 0));
        dueUndone("expose", x -> x.expose(5));
        dueUndone("mute", x -> x.mute(5, 9));
        dueUndone("fine", x -> x.fine(6));
        dueUndone("hour", x -> x.hour());
        dueUndone("read", x -> Check.read(x, "s3:lll;p3=3;w0;l2>1;x2;m3:5;f3;h;h;u3"));
    }

    private static void dueNoChange(String name, Consumer<WhistleJunction> call) {
        t.test("36: no change is " + name, x -> {
            Sentences.tell(x, "s", "ls");
            x.whistle(0);
            String before = Check.state(x);
            call.accept(x);
            t.due(before, () -> Check.state(x));
            t.due(3, () -> x.account(15));
            t.due(2, () -> x.undo());
        });
    }

    private static void promise36NoChange() {
        dueNoChange("a call of sign that is refused", x -> Check.answerOf(() -> x.sign(2, 1, 0)));
        dueNoChange("a call of unsign that is refused", x -> Check.answerOf(() -> x.unsign(2)));
        dueNoChange("a call of priority that is refused", x -> Check.answerOf(() -> x.priority(2, 0)));
        dueNoChange("a call of platform that throws", x -> Check.answerOf(() -> x.platform(2, 6, 0)));
        dueNoChange("a call of whistle that is refused", x -> Check.answerOf(() -> x.whistle(0)));
        dueNoChange("a call of lie that is refused", x -> Check.answerOf(() -> x.lie(0, 1)));
        dueNoChange("a call of expose that is refused", x -> Check.answerOf(() -> x.expose(0)));
        dueNoChange("a call of mute that throws", x -> Check.answerOf(() -> x.mute(0, 0)));
        dueNoChange("a call of fine that is refused", x -> Check.answerOf(() -> x.fine(0)));
        dueNoChange("a call of read that is malformed", x -> Check.read(x, "h;"));
        dueNoChange("a call of read that is refused", x -> Check.read(x, "h;h;w2"));
        dueNoChange("snapshot", x -> x.snapshot());
        dueNoChange("append", x -> x.append('h'));
        dueNoChange("a question", x -> {
            x.way();
            x.isRight();
            x.ways(true);
            x.reading(0);
            x.soonest(0);
            x.ranked(1, 0);
            x.free(6, true);
            x.text(0);
            x.strip();
        });
    }

    private static void promise36AtMostEight() {
        t.test("36: of those that could be undone before it only the latest 7 still can: at most 8", x -> {
            Sentences.hours(x, 7);
            t.due(7, () -> x.account(15));
            x.hour();
            t.due(8, () -> x.account(15));
            x.hour();
            t.due(8, () -> x.account(15));
            t.due(7, () -> x.undo());
        });
        t.test("36: the oldest one of nine cannot be undone", x -> {
            x.priority(0, 1);
            Sentences.hours(x, 8);
            for (int i = 0; i < 8; i++) {
                x.undo();
            }
            t.due(0, () -> x.account(0));
            t.due(1, () -> x.lineOf(0, 2));
            t.fails(Sentences.NO_STATE, () -> x.undo());
        });
        t.test("36: those that were undone do not count: after eight, three undone and two made", x -> {
            Sentences.hours(x, 8);
            x.undo();
            x.undo();
            t.due(5, () -> x.undo());
            x.priority(0, 1);
            x.priority(0, 2);
            t.due(7, () -> x.account(15));
            x.undo();
            t.due(5, () -> x.undo());
            t.due(0, () -> x.lineOf(0, 2));
            t.due(4, () -> x.undo());
            t.due(4, () -> x.account(0));
        });
        t.test("36: each state comes back in its turn, the latest change first", x -> {
            for (int priority = 1; priority <= 9; priority++) {
                x.priority(3, priority);
            }
            for (int priority = 8; priority >= 1; priority--) {
                int due = priority;
                t.due(due - 1, () -> x.undo());
                t.due(due, () -> x.lineOf(3, 2));
            }
        });
        t.test("36: after many changes and many undone ones", x -> {
            for (int round = 0; round < 20; round++) {
                Sentences.hours(x, 5);
                x.undo();
                x.undo();
            }
            t.due(6, () -> x.account(15));
            for (int left = 5; left >= 0; left--) {
                int due = left;
                t.due(due, () -> x.undo());
            }
            t.due(54, () -> x.account(0));
        });
    }

    private static void promise36WhatItUndoes() {
        t.test("36: an hour that is undone: its whistles, lies and echoes are heard as before", x -> {
            Sentences.tell(x, "s");
            x.platform(0, 1, 127);
            x.whistle(0);
            x.hour();
            x.lie(1, 0);
            x.lie(2, 0);
            x.expose(2);
            String before = Check.everything(x);
            x.hour();
            x.undo();
            t.due(before, () -> Check.everything(x));
            t.due(3, () -> x.expose(1));
        });
        t.test("36: a whistle that is undone can be made anew", x -> {
            Sentences.tell(x, "s");
            x.platform(0, 1, 127);
            x.whistle(0);
            x.undo();
            t.due(0, () -> x.account(5));
            t.due(9, () -> x.whistle(0));
        });
        t.test("36: a lie that was exposed can be exposed anew, once this is undone", x -> {
            Sentences.tell(x, "s");
            x.lie(1, 0);
            x.expose(1);
            x.undo();
            t.due(1, () -> x.account(3));
            t.due(3, () -> x.expose(1));
        });
        t.test("36: the input buffer is not undone", x -> {
            x.hour();
            x.append('h');
            x.undo();
            t.due(1, () -> x.account(14));
            Check.append(x, ";h");
            x.read();
            x.undo();
            t.due(0, () -> x.account(14));
        });
        t.test("36: the snapshot is not undone", x -> {
            x.sign(0, 1, 1);
            x.snapshot();
            x.undo();
            t.due(1, () -> x.restore());
        });
    }

    private static void promise37Snapshot() {
        t.test("37: returns how many lines have a sign: from none to all", x -> {
            t.due(0, () -> x.snapshot());
            Sentences.tell(x, "s", "l", "ss", "ll", "sl", "ls", "sss");
            t.due(7, () -> x.snapshot());
            x.unsign(6);
            t.due(6, () -> x.snapshot());
        });
        t.test("37: it replaces an earlier one", x -> {
            x.sign(0, 1, 1);
            x.snapshot();
            x.unsign(0);
            x.snapshot();
            x.hour();
            t.due(0, () -> x.restore());
            t.due(0, () -> x.account(0));
        });
        t.test("37: what could be undone, still can", x -> {
            Sentences.hours(x, 8);
            x.snapshot();
            t.due(8, () -> x.account(15));
            t.due(7, () -> x.undo());
        });
        t.test("37: later changes stay out of it", x -> {
            fill(x);
            x.snapshot();
            String before = Check.state(x);
            x.expose(5);
            x.whistle(0);
            x.hour();
            x.restore();
            t.due(before, () -> Check.state(x));
        });
    }

    private static void dueSaved(String name, Consumer<WhistleJunction> ahead, Consumer<WhistleJunction> change) {
        t.test("37: everything that changes can change: " + name, x -> {
            ahead.accept(x);
            x.snapshot();
            String before = Check.state(x);
            change.accept(x);
            t.due(false, () -> before.equals(Check.state(x)));
            x.restore();
            t.due(before, () -> Check.state(x));
        });
    }

    private static void promise37EverythingThatChangesCanChange() {
        dueSaved("signs", x -> x.sign(0, 6, 63), x -> x.unsign(0));
        dueSaved("priorities", x -> x.priority(6, 9), x -> x.priority(6, 0));
        dueSaved("platforms", x -> x.platform(3, 5, 127), x -> x.platform(3, 0, 0));
        dueSaved("whistles", UndoEdgesTest::fill, x -> x.whistle(0));
        dueSaved("lies", UndoEdgesTest::fill, x -> x.lie(3, 0));
        dueSaved("what was exposed", UndoEdgesTest::fill, x -> x.expose(5));
        dueSaved("mutes", UndoEdgesTest::fill, x -> x.mute(0, 9));
        dueSaved("coins", UndoEdgesTest::fill, x -> x.fine(6));
        dueSaved("hours", UndoEdgesTest::fill, x -> x.hour());
        dueSaved("all of a read", UndoEdgesTest::fill, x -> Check.read(x, "w0;h;h;h"));
        dueSaved("all that clear takes", UndoEdgesTest::fill, x -> x.clear());
    }

    private static void promise38Restore() {
        t.test("38: there is no snapshot", x -> {
            t.fails(Sentences.NO_STATE, () -> x.restore());
            x.hour();
            t.leavesAll(x, () -> x.restore());
            t.due(0, () -> x.undo());
        });
        t.test("38: returns how many lines have a sign then: none and all", x -> {
            x.snapshot();
            Sentences.tell(x, "s", "l", "ss", "ll", "sl", "ls", "sss");
            t.due(0, () -> x.restore());
            Sentences.tell(x, "s", "l", "ss", "ll", "sl", "ls", "sss");
            x.snapshot();
            x.clear();
            t.due(7, () -> x.restore());
        });
        t.test("38: the snapshot stays available", x -> {
            fill(x);
            x.snapshot();
            String before = Check.state(x);
            for (int i = 0; i < 2; i++) {
                x.whistle(0);
                x.hour();
                x.unsign(0);
                t.due(2, () -> x.restore());
            }
            t.due(before, () -> Check.state(x));
        });
        t.test("38: at once, where nothing changed", x -> {
            fill(x);
            String before = Check.state(x);
            x.snapshot();
            t.due(2, () -> x.restore());
            t.due(before, () -> Check.state(x));
        });
        t.test("38: changes after it do not reach into the snapshot", x -> {
            fill(x);
            x.snapshot();
            String before = Check.state(x);
            x.restore();
            x.whistle(0);
            x.expose(5);
            x.hour();
            x.restore();
            t.due(before, () -> Check.state(x));
        });
        t.test("38: a lie that was made before the snapshot can be exposed, and a whistle not be made twice", x -> {
            fill(x);
            x.snapshot();
            x.hour();
            x.restore();
            t.due(3, () -> x.expose(5));
            t.refused(x, 4, 3, () -> x.lie(5, 0));
            x.restore();
            t.refused(x, 5, 1, () -> x.lie(5, 0));
        });
        t.test("38: the input buffer is not saved", x -> {
            x.append('h');
            x.snapshot();
            Check.append(x, ";h");
            x.restore();
            t.due(3, () -> x.account(14));
        });
    }

    private static void promise38NoChangesAfterIt() {
        t.test("38: after that no changes can be undone", x -> {
            Sentences.hours(x, 4);
            x.snapshot();
            Sentences.hours(x, 4);
            x.restore();
            t.due(0, () -> x.account(15));
            t.fails(Sentences.NO_STATE, () -> x.undo());
            t.due(4, () -> x.account(0));
        });
        t.test("38: after that changes are counted anew, up to 8", x -> {
            x.snapshot();
            Sentences.hours(x, 3);
            x.restore();
            Sentences.hours(x, 9);
            t.due(8, () -> x.account(15));
            for (int i = 0; i < 8; i++) {
                x.undo();
            }
            t.due(1, () -> x.account(0));
        });
        t.test("38: it is no change itself", x -> {
            x.snapshot();
            x.restore();
            t.due(0, () -> x.account(15));
        });
    }
}
