/** Promises 1 to 11: a test for each sentence that names a boundary case. */
public final class SignsEdgesTest {
    private static final Sentences t = new Sentences();

    public static void main(String[] args) {
        promise1NewObject();
        promise2Clear();
        promise2WhatClearKeeps();
        promise3Sign();
        promise3Refused();
        promise4Unsign();
        promise5Priority();
        promise6Platform();
        promise7LineOf();
        promise7Counts();
        promise8PlatformOf();
        promise9Clash();
        promise10IsClear();
        promise11Free();
        t.end("SignsEdgesTest");
    }

    private static void promise1NewObject() {
        t.test("1: without signs", x -> {
            t.due(0, () -> x.account(1));
            t.dueOfLines(x, 0, 0, 0, 0, 0, 0, 0, 0);
            t.dueOfLines(x, 1, 0, 0, 0, 0, 0, 0, 0);
        });
        t.test("1: in the hour 0", x -> t.due(0, () -> x.account(0)));
        t.test("1: a priority, at first 0", x -> t.dueOfLines(x, 2, 0, 0, 0, 0, 0, 0, 0));
        t.test("1: steam, at first 10", x -> t.dueOfLines(x, 3, 10, 10, 10, 10, 10, 10, 10));
        t.test("1: coins, at first 10", x -> t.dueOfLines(x, 4, 10, 10, 10, 10, 10, 10, 10));
        t.test("1: no line is muted", x -> t.dueOfLines(x, 5, 0, 0, 0, 0, 0, 0, 0));
        t.test("1: no line passed, lied, was exposed or whistled", x -> {
            t.dueOfLines(x, 6, 0, 0, 0, 0, 0, 0, 0);
            t.dueOfLines(x, 7, 0, 0, 0, 0, 0, 0, 0);
            t.dueOfLines(x, 8, 0, 0, 0, 0, 0, 0, 0);
            t.dueOfLines(x, 9, 0, 0, 0, 0, 0, 0, 0);
        });
        t.test("1: platforms with at first no lines and a delay of 0, and no echoes", x -> {
            for (int what = 0; what < 4; what++) {
                int asked = what;
                t.due(0, () -> x.platformOf(0, asked));
                t.due(0, () -> x.platformOf(1, asked));
                t.due(0, () -> x.platformOf(2, asked));
                t.due(0, () -> x.platformOf(3, asked));
            }
        });
        t.test("1: a delay of 0, by which it does not echo", x -> {
            Check.sign(x, 0, "s");
            x.whistle(0);
            t.due(0, () -> x.account(5));
        });
        t.test("1: each object is one of its own", x -> {
            WhistleJunction other = new WhistleJunction();
            other.sign(0, 1, 1);
            other.hour();
            other.append('h');
            other.snapshot();
            Check.answerOf(() -> other.unsign(1));
            t.due(0, () -> x.account(1));
            t.due(0, () -> x.account(0));
            t.due(0, () -> x.account(14));
            t.fails(Sentences.NO_STATE, () -> x.restore());
            t.fails(Sentences.NO_STATE, () -> x.refusal(false));
        });
    }

    private static void promise2Clear() {
        t.test("2: returns how many lines had a sign: none", x -> t.due(0, () -> x.clear()));
        t.test("2: returns how many lines had a sign: all, and then none", x -> {
            Sentences.tell(x, "s", "l", "ss", "ll", "sl", "ls", "sss");
            t.due(7, () -> x.clear());
            t.due(0, () -> x.clear());
        });
        t.test("2: everything as in a new object", x -> {
            String fresh = Check.state(x);
            Sentences.tell(x, "s", "l", "ss", "ll", "sl", "ls", "sss");
            x.platform(0, 1, 127);
            x.platform(3, 5, 127);
            x.priority(6, 9);
            x.whistle(0);
            x.hour();
            x.whistle(1);
            x.lie(2, 0);
            x.expose(2);
            x.mute(4, 9);
            x.mute(5, 1);
            x.fine(5);
            t.due(-2, () -> x.hour());
            x.whistle(3);
            x.clear();
            t.due(fresh, () -> Check.state(x));
        });
        t.test("2: a line that whistled before can whistle in the new hour 0", x -> {
            Check.sign(x, 0, "s");
            x.whistle(0);
            x.clear();
            Check.sign(x, 0, "s");
            t.due(9, () -> x.whistle(0));
        });
        t.test("2: no echo comes after it", x -> {
            Check.sign(x, 0, "s");
            x.platform(0, 1, 1);
            x.whistle(0);
            x.clear();
            t.due(-1, () -> x.hour());
            t.due(0, () -> x.account(3));
        });
        t.test("2: the changes are those since the last call of clear", x -> {
            Sentences.hours(x, 9);
            x.clear();
            t.due(0, () -> x.account(15));
            t.fails(Sentences.NO_STATE, () -> x.undo());
            x.hour();
            t.due(1, () -> x.account(15));
            t.due(0, () -> x.undo());
            t.due(0, () -> x.account(0));
        });
    }

    private static void promise2WhatClearKeeps() {
        t.test("2: except the input buffer", x -> {
            Check.append(x, "h;h");
            x.clear();
            t.due(3, () -> x.account(14));
            t.due(2, () -> x.read());
        });
        t.test("2: except the error position", x -> {
            Check.read(x, "h;h;");
            x.clear();
            t.due(4, () -> x.errorPosition());
        });
        t.test("2: except the refused item", x -> {
            Check.read(x, "h;w0");
            x.clear();
            t.due(1, () -> x.refusedItem());
        });
        t.test("2: except the refusal", x -> {
            Check.answerOf(() -> x.fine(0));
            x.clear();
            t.due("8:10", () -> Check.refusal(x));
        });
        t.test("2: except the line of text", x -> {
            Check.sign(x, 3, "ls");
            x.text(3);
            x.clear();
            t.due("3:ls/0*10", () -> Check.line(x));
        });
        t.test("2: except the snapshot", x -> {
            Check.sign(x, 3, "ls");
            x.snapshot();
            x.clear();
            t.due(1, () -> x.restore());
            t.due(2, () -> x.lineOf(3, 0));
        });
        t.test("2: it makes no snapshot", x -> {
            x.clear();
            t.fails(Sentences.NO_STATE, () -> x.restore());
        });
    }

    private static void promise3Sign() {
        t.test("3: the first and the last line", x -> {
            t.due(1, () -> x.sign(0, 1, 0));
            t.due(2, () -> x.sign(6, 1, 1));
            t.dueOfLines(x, 0, 1, 0, 0, 0, 0, 0, 1);
        });
        t.test("3: the steam of a word is 1 for each s: the least and the most", x -> {
            t.due(1, () -> x.sign(0, 1, 0));
            t.due(6, () -> x.sign(1, 6, 0));
        });
        t.test("3: the steam of a word is 2 for each l: the least and the most", x -> {
            t.due(2, () -> x.sign(0, 1, 1));
            t.due(12, () -> x.sign(1, 6, 63));
        });
        t.test("3: the steam of a word of both letters", x -> {
            t.due(7, () -> x.sign(0, 6, 32));
            t.due(7, () -> x.sign(1, 6, 1));
            t.due(11, () -> x.sign(2, 6, 31));
        });
        t.test("3: bit 0 is 1 if its first letter is l, and so on to the sixth", x -> {
            for (int place = 0; place < 6; place++) {
                x.sign(0, 6, 1 << place);
                String due = "0:ssssss/0*10".substring(0, 2 + place) + "l" + "0:ssssss/0*10".substring(3 + place);
                t.due(due, () -> Check.written(x, x.text(0)));
            }
        });
        t.test("3: all bits that a length has", x -> {
            for (int length = 1; length <= 6; length++) {
                int of = length;
                t.due(length, () -> x.sign(0, of, 0));
                t.due(2 * length, () -> x.sign(0, of, (1 << of) - 1));
            }
        });
        t.test("3: in place of an older one, which another line can have then", x -> {
            x.sign(0, 2, 1);
            t.due(4, () -> x.sign(0, 2, 3));
            t.due(1, () -> x.account(1));
            t.due(3, () -> x.lineOf(0, 1));
            t.due(3, () -> x.sign(1, 2, 1));
        });
        t.test("3: a sign that was taken away can be told to another line", x -> {
            x.sign(0, 2, 1);
            x.unsign(0);
            t.due(3, () -> x.sign(1, 2, 1));
        });
        t.test("3: words with one number of bits, but another length, are not one sign", x -> {
            for (int line = 0; line < 6; line++) {
                int of = line;
                t.due(line + 1, () -> x.sign(of, of + 1, 0));
            }
            t.due(6, () -> x.account(1));
        });
        t.test("3: no such line", x -> {
            for (int line : Sentences.NO_LINES) {
                t.fails(Sentences.NO_INDEX, () -> x.sign(line, 1, 0));
            }
        });
        t.test("3: the length is out of range", x -> {
            for (int length : new int[] {0, 7, -1, 32, 33, 38, Integer.MIN_VALUE, Integer.MAX_VALUE}) {
                t.fails(Sentences.BAD, () -> x.sign(0, length, 0));
            }
        });
        t.test("3: the bits are out of range for this length", x -> {
            for (int length = 1; length <= 6; length++) {
                int of = length;
                t.fails(Sentences.BAD, () -> x.sign(0, of, 1 << of));
                t.fails(Sentences.BAD, () -> x.sign(0, of, -1));
                t.fails(Sentences.BAD, () -> x.sign(0, of, Integer.MIN_VALUE));
                t.fails(Sentences.BAD, () -> x.sign(0, of, Integer.MAX_VALUE));
            }
        });
    }

    private static void promise3Refused() {
        t.test("3: refused for the reason 1: the line that has this sign", x -> {
            x.sign(0, 2, 1);
            x.sign(6, 2, 2);
            t.refused(x, 1, 0, () -> x.sign(3, 2, 1));
            t.refused(x, 1, 6, () -> x.sign(3, 2, 2));
            t.refused(x, 1, 6, () -> x.sign(0, 2, 2));
        });
        t.test("3: the sign that a line has, told again, is refused, too", x -> {
            x.sign(4, 6, 63);
            t.refused(x, 1, 4, () -> x.sign(4, 6, 63));
            t.due(1, () -> x.account(15));
        });
        t.test("3: a line that is missing is told ahead of wrong numbers", x -> {
            t.fails(Sentences.NO_INDEX, () -> x.sign(7, 0, 0));
            t.fails(Sentences.NO_INDEX, () -> x.sign(-1, 1, 2));
        });
        t.test("3: wrong numbers are told ahead of the reason 1, and are no refusal", x -> {
            x.sign(0, 1, 1);
            t.fails(Sentences.BAD, () -> x.sign(1, 1, 3));
            t.fails(Sentences.BAD, () -> x.sign(0, 1, 65));
            t.fails(Sentences.NO_STATE, () -> x.refusal(false));
        });
        t.test("3: a missing line is told ahead of the reason 1, and is no refusal", x -> {
            x.sign(0, 1, 1);
            t.fails(Sentences.NO_INDEX, () -> x.sign(7, 1, 1));
            t.fails(Sentences.NO_STATE, () -> x.refusal(false));
        });
        t.test("3: a call that throws leaves the state unchanged", x -> {
            x.sign(0, 2, 1);
            t.leavesAll(x, () -> x.sign(1, 2, 1), () -> x.sign(0, 2, 1), () -> x.sign(1, 7, 0), () -> x.sign(1, 2, 4),
                () -> x.sign(7, 2, 0));
        });
    }

    private static void promise4Unsign() {
        t.test("4: returns how many lines have one then: from the seven to none", x -> {
            Sentences.tell(x, "s", "l", "ss", "ll", "sl", "ls", "sss");
            for (int line = 0; line < 7; line++) {
                int of = line;
                t.due(6 - line, () -> x.unsign(of));
                t.due(0, () -> x.lineOf(of, 0));
            }
        });
        t.test("4: the line can be told the same sign anew", x -> {
            x.sign(2, 1, 1);
            x.unsign(2);
            t.due(2, () -> x.sign(2, 1, 1));
        });
        t.test("4: no such line", x -> {
            for (int line : Sentences.NO_LINES) {
                t.fails(Sentences.NO_INDEX, () -> x.unsign(line));
            }
            t.fails(Sentences.NO_STATE, () -> x.refusal(false));
        });
        t.test("4: refused for the reason 2: how many lines have one, none", x -> t.refused(x, 2, 0, () -> x.unsign(0)));
        t.test("4: refused for the reason 2: how many lines have one, six", x -> {
            Sentences.tell(x, "s", "l", "ss", "ll", "sl", "ls");
            t.refused(x, 2, 6, () -> x.unsign(6));
        });
        t.test("4: a sign is taken away once", x -> {
            x.sign(0, 1, 0);
            x.unsign(0);
            t.refused(x, 2, 0, () -> x.unsign(0));
        });
        t.test("4: a call that throws leaves the state unchanged", x -> {
            x.sign(0, 1, 0);
            t.leavesAll(x, () -> x.unsign(1), () -> x.unsign(7), () -> x.unsign(-1));
        });
    }

    private static void promise5Priority() {
        t.test("5: a priority from 0 to 9; returns the one before", x -> {
            t.due(0, () -> x.priority(0, 9));
            t.due(9, () -> x.priority(0, 0));
            t.due(0, () -> x.priority(6, 1));
            t.dueOfLines(x, 2, 0, 0, 0, 0, 0, 0, 1);
        });
        t.test("5: the number is out of range", x -> {
            for (int priority : new int[] {-1, 10, Integer.MIN_VALUE, Integer.MAX_VALUE}) {
                t.fails(Sentences.BAD, () -> x.priority(0, priority));
            }
            t.fails(Sentences.NO_STATE, () -> x.refusal(false));
        });
        t.test("5: no such line", x -> {
            for (int line : Sentences.NO_LINES) {
                t.fails(Sentences.NO_INDEX, () -> x.priority(line, 5));
            }
        });
        t.test("5: a missing line is told ahead of a wrong number and of the reason 3", x -> {
            t.fails(Sentences.NO_INDEX, () -> x.priority(7, 10));
            t.fails(Sentences.NO_INDEX, () -> x.priority(-1, -1));
            t.fails(Sentences.NO_INDEX, () -> x.priority(7, 0));
            t.fails(Sentences.NO_STATE, () -> x.refusal(false));
        });
        t.test("5: refused for the reason 3: the priority, at first 0", x -> t.refused(x, 3, 0, () -> x.priority(6, 0)));
        t.test("5: refused for the reason 3: the highest priority", x -> {
            x.priority(2, 9);
            t.refused(x, 3, 9, () -> x.priority(2, 9));
        });
        t.test("5: two lines can have one priority", x -> {
            x.priority(2, 9);
            t.due(0, () -> x.priority(3, 9));
        });
        t.test("5: a call that throws leaves the state unchanged", x -> {
            x.priority(2, 4);
            t.leavesAll(x, () -> x.priority(2, 4), () -> x.priority(2, 10), () -> x.priority(7, 1));
        });
    }

    private static void promise6Platform() {
        t.test("6: the platforms 0 to 3; returns how many have a delay above 0 then", x -> {
            t.due(0, () -> x.platform(0, 0, 127));
            t.due(1, () -> x.platform(0, 1, 0));
            t.due(2, () -> x.platform(1, 5, 127));
            t.due(3, () -> x.platform(2, 1, 1));
            t.due(4, () -> x.platform(3, 1, 64));
            t.due(4, () -> x.platform(3, 2, 64));
            t.due(3, () -> x.platform(0, 0, 0));
        });
        t.test("6: no such platform", x -> {
            for (int platform : Sentences.NO_PLATFORMS) {
                t.fails(Sentences.NO_INDEX, () -> x.platform(platform, 1, 1));
            }
        });
        t.test("6: a delay from 0 to 5 hours", x -> {
            x.platform(0, 5, 1);
            t.due(5, () -> x.platformOf(0, 0));
            x.platform(0, 0, 1);
            t.due(0, () -> x.platformOf(0, 0));
        });
        t.test("6: the delay is out of range", x -> {
            for (int delay : new int[] {-1, 6, Integer.MIN_VALUE, Integer.MAX_VALUE}) {
                t.fails(Sentences.BAD, () -> x.platform(0, delay, 1));
            }
        });
        t.test("6: the set of lines, 0 to 127", x -> {
            x.platform(0, 1, 127);
            t.due(127, () -> x.platformOf(0, 1));
            x.platform(0, 1, 0);
            t.due(0, () -> x.platformOf(0, 1));
        });
        t.test("6: the set is out of range", x -> {
            for (int lines : new int[] {-1, 128, Integer.MIN_VALUE, Integer.MAX_VALUE}) {
                t.fails(Sentences.BAD, () -> x.platform(0, 1, lines));
            }
        });
        t.test("6: a missing platform is told ahead of a wrong delay and a wrong set", x -> {
            t.fails(Sentences.NO_INDEX, () -> x.platform(4, 6, 1));
            t.fails(Sentences.NO_INDEX, () -> x.platform(-1, 1, 128));
        });
        t.test("6: bit 0 for the line 0, and so on to the line 6", x -> {
            Sentences.tell(x, "s", "l", "ss", "ll", "sl", "ls", "sss");
            x.platform(0, 1, 1);
            x.platform(1, 1, 64);
            x.whistle(0);
            t.due(1, () -> x.platformOf(0, 3));
            t.due(0, () -> x.platformOf(1, 3));
            for (int line = 1; line < 6; line++) {
                x.whistle(line);
            }
            t.due(1, () -> x.account(5));
            x.whistle(6);
            t.due(1, () -> x.platformOf(0, 3));
            t.due(1, () -> x.platformOf(1, 3));
        });
        t.test("6: to tell a platform the same again is a change", x -> {
            x.platform(0, 0, 0);
            t.due(1, () -> x.account(15));
            x.platform(0, 0, 0);
            t.due(2, () -> x.account(15));
        });
        t.test("6: a platform that is told anew still echoes what it heard before", x -> {
            Check.sign(x, 0, "s");
            x.platform(2, 2, 1);
            x.whistle(0);
            x.platform(2, 0, 0);
            x.hour();
            t.due(1, () -> x.platformOf(2, 3));
            x.hour();
            t.due(2, () -> x.heard(0, 2));
        });
        t.test("6: a call that throws leaves the state unchanged", x -> {
            x.platform(0, 1, 1);
            t.leavesAll(x, () -> x.platform(0, 6, 1), () -> x.platform(0, 1, 128), () -> x.platform(4, 1, 1));
        });
    }

    private static void promise7LineOf() {
        t.test("7: no such line", x -> {
            for (int line : Sentences.NO_LINES) {
                t.fails(Sentences.NO_INDEX, () -> x.lineOf(line, 3));
            }
        });
        t.test("7: what is out of range", x -> {
            for (int what : new int[] {-1, 10, Integer.MIN_VALUE, Integer.MAX_VALUE}) {
                t.fails(Sentences.BAD, () -> x.lineOf(0, what));
            }
        });
        t.test("7: a missing line is told ahead of what", x -> {
            t.fails(Sentences.NO_INDEX, () -> x.lineOf(7, 10));
            t.fails(Sentences.NO_INDEX, () -> x.lineOf(-1, -1));
        });
        t.test("7: 0 for the length of its sign, 0 without one", x -> {
            Sentences.tell(x, "", "s", "", "", "", "", "llllll");
            t.dueOfLines(x, 0, 0, 1, 0, 0, 0, 0, 6);
            x.unsign(6);
            t.dueOfLines(x, 0, 0, 1, 0, 0, 0, 0, 0);
        });
        t.test("7: 1 for the bits of this", x -> {
            Sentences.tell(x, "s", "l", "sssssl", "llllll", "", "", "lsssss");
            t.dueOfLines(x, 1, 0, 1, 32, 63, 0, 0, 1);
        });
        t.test("7: 2 for its priority", x -> {
            x.priority(0, 9);
            x.priority(6, 1);
            t.dueOfLines(x, 2, 9, 0, 0, 0, 0, 0, 1);
        });
        t.test("7: 3 for its steam, from 0 to 20", x -> {
            Check.sign(x, 0, "lllll");
            x.whistle(0);
            t.dueOfLines(x, 3, 0, 10, 10, 10, 10, 10, 10);
            Sentences.hours(x, 5);
            t.dueOfLines(x, 3, 10, 20, 20, 20, 20, 20, 20);
        });
        t.test("7: 4 for its coins, from 0 up", x -> {
            x.mute(6, 5);
            x.fine(6);
            Check.sign(x, 0, "s");
            x.whistle(0);
            x.hour();
            t.dueOfLines(x, 4, 13, 10, 10, 10, 10, 10, 0);
        });
        t.test("7: 5 for the hours for which it is muted", x -> {
            Check.sign(x, 1, "s");
            x.lie(0, 1);
            x.mute(0, 9);
            x.expose(0);
            x.mute(6, 1);
            t.dueOfLines(x, 5, 12, 0, 0, 0, 0, 0, 1);
            x.hour();
            t.dueOfLines(x, 5, 11, 0, 0, 0, 0, 0, 0);
        });
    }

    private static void promise7Counts() {
        t.test("7: 6 for how often it passed so far: who whistled, not who was told of", x -> {
            Sentences.tell(x, "s", "l");
            x.whistle(1);
            x.hour();
            x.lie(6, 0);
            x.hour();
            x.whistle(1);
            x.hour();
            t.dueOfLines(x, 6, 0, 2, 0, 0, 0, 0, 1);
        });
        t.test("7: 7 for its lies so far, those that were exposed included", x -> {
            Sentences.tell(x, "s", "l");
            x.lie(0, 1);
            x.lie(6, 1);
            x.expose(6);
            x.whistle(1);
            x.hour();
            x.lie(0, 1);
            t.dueOfLines(x, 7, 2, 0, 0, 0, 0, 0, 1);
        });
        t.test("7: 8 for how often it was exposed so far", x -> {
            Sentences.tell(x, "s", "l");
            x.lie(0, 1);
            x.lie(6, 1);
            x.expose(6);
            t.dueOfLines(x, 8, 0, 0, 0, 0, 0, 0, 1);
            Sentences.hours(x, 3);
            x.lie(6, 1);
            x.expose(6);
            t.dueOfLines(x, 8, 0, 0, 0, 0, 0, 0, 2);
        });
        t.test("7: 9 for 1 if it whistled in this hour: its sign or a lie, exposed or not", x -> {
            Sentences.tell(x, "s", "l");
            x.whistle(0);
            x.lie(2, 1);
            x.lie(3, 1);
            x.expose(3);
            t.dueOfLines(x, 9, 1, 0, 1, 1, 0, 0, 0);
        });
        t.test("7: 9 for 0 otherwise: in the next hour, even if it is heard by an echo", x -> {
            Sentences.tell(x, "s", "l");
            x.platform(0, 1, 1);
            x.whistle(0);
            x.hour();
            t.due(1, () -> x.account(3));
            t.dueOfLines(x, 9, 0, 0, 0, 0, 0, 0, 0);
        });
    }

    private static void promise8PlatformOf() {
        t.test("8: no such platform", x -> {
            for (int platform : Sentences.NO_PLATFORMS) {
                t.fails(Sentences.NO_INDEX, () -> x.platformOf(platform, 0));
            }
        });
        t.test("8: what is out of range", x -> {
            for (int what : new int[] {-1, 4, Integer.MIN_VALUE, Integer.MAX_VALUE}) {
                t.fails(Sentences.BAD, () -> x.platformOf(3, what));
            }
        });
        t.test("8: a missing platform is told ahead of what", x -> {
            t.fails(Sentences.NO_INDEX, () -> x.platformOf(4, 4));
            t.fails(Sentences.NO_INDEX, () -> x.platformOf(-1, -1));
        });
        t.test("8: 0 for its delay, 1 for its lines", x -> {
            x.platform(0, 5, 127);
            x.platform(3, 1, 64);
            t.due(5, () -> x.platformOf(0, 0));
            t.due(127, () -> x.platformOf(0, 1));
            t.due(1, () -> x.platformOf(3, 0));
            t.due(64, () -> x.platformOf(3, 1));
            t.due(0, () -> x.platformOf(1, 0));
            t.due(0, () -> x.platformOf(2, 1));
        });
        t.test("8: 2 for its echoes heard so far, 3 for those that are to come", x -> {
            Sentences.tell(x, "s", "l");
            x.platform(0, 1, 3);
            x.platform(3, 2, 2);
            x.whistle(0);
            x.whistle(1);
            dueEchoes(x, 0, 0, 2);
            dueEchoes(x, 3, 0, 1);
            x.hour();
            dueEchoes(x, 0, 2, 0);
            dueEchoes(x, 3, 0, 1);
            x.whistle(1);
            x.hour();
            dueEchoes(x, 0, 3, 0);
            dueEchoes(x, 3, 1, 1);
            x.hour();
            dueEchoes(x, 0, 3, 0);
            dueEchoes(x, 3, 2, 0);
            dueEchoes(x, 1, 0, 0);
        });
        t.test("8: what a platform told anew heard before is still to come", x -> {
            Check.sign(x, 0, "s");
            x.platform(1, 5, 1);
            x.whistle(0);
            x.platform(1, 1, 1);
            x.hour();
            x.whistle(0);
            dueEchoes(x, 1, 0, 2);
            x.hour();
            dueEchoes(x, 1, 1, 1);
        });
    }

    private static void dueEchoes(WhistleJunction x, int platform, int heard, int toCome) {
        t.due(heard, () -> x.platformOf(platform, 2));
        t.due(toCome, () -> x.platformOf(platform, 3));
    }

    private static void promise9Clash() {
        t.test("9: 1 if that of the one begins that of the other", x -> {
            Sentences.tell(x, "s", "sl", "sllsls");
            t.due(1, () -> x.clash(0, 1));
            t.due(1, () -> x.clash(0, 2));
            t.due(1, () -> x.clash(1, 2));
        });
        t.test("9: 2 if that of the other begins that of the one", x -> {
            Sentences.tell(x, "s", "sl", "sllsls");
            t.due(2, () -> x.clash(1, 0));
            t.due(2, () -> x.clash(2, 0));
            t.due(2, () -> x.clash(2, 1));
        });
        t.test("9: 3 if both are one line with a sign", x -> {
            Sentences.tell(x, "s", "", "", "", "", "", "llllll");
            t.due(3, () -> x.clash(0, 0));
            t.due(3, () -> x.clash(6, 6));
        });
        t.test("9: 0 if both are one line without a sign", x -> t.due(0, () -> x.clash(3, 3)));
        t.test("9: 0 if one of two lines has no sign", x -> {
            Sentences.tell(x, "s");
            t.due(0, () -> x.clash(0, 6));
            t.due(0, () -> x.clash(6, 0));
            t.due(0, () -> x.clash(5, 6));
        });
        t.test("9: 0 if they differ, in the first letter or in the last", x -> {
            Sentences.tell(x, "sssss", "lsssss", "ssssl", "ssssll");
            t.due(0, () -> x.clash(0, 1));
            t.due(0, () -> x.clash(1, 0));
            t.due(0, () -> x.clash(0, 2));
            t.due(0, () -> x.clash(2, 0));
            t.due(0, () -> x.clash(0, 3));
            t.due(0, () -> x.clash(3, 0));
        });
        t.test("9: no such line, for either", x -> {
            x.sign(0, 1, 0);
            for (int line : Sentences.NO_LINES) {
                t.fails(Sentences.NO_INDEX, () -> x.clash(line, 0));
                t.fails(Sentences.NO_INDEX, () -> x.clash(0, line));
                t.fails(Sentences.NO_INDEX, () -> x.clash(line, line));
            }
        });
    }

    private static void promise10IsClear() {
        t.test("10: without signs no sign begins another", x -> t.due(true, () -> x.isClear()));
        t.test("10: one sign alone begins none of another line", x -> {
            x.sign(6, 1, 0);
            t.due(true, () -> x.isClear());
        });
        t.test("10: seven signs that are clear", x -> {
            Sentences.tell(x, "lll", "lls", "lsl", "lss", "sll", "sls", "ssl");
            t.due(true, () -> x.isClear());
        });
        t.test("10: the first line's sign begins that of the last line", x -> {
            Sentences.tell(x, "s", "", "", "", "", "", "sl");
            t.due(false, () -> x.isClear());
        });
        t.test("10: the last line's sign begins that of the first line", x -> {
            Sentences.tell(x, "sl", "", "", "", "", "", "s");
            t.due(false, () -> x.isClear());
        });
        t.test("10: two lines in the middle", x -> {
            Sentences.tell(x, "ll", "lsl", "ss", "sslsls", "lsss");
            t.due(false, () -> x.isClear());
            x.unsign(3);
            t.due(true, () -> x.isClear());
        });
    }

    private static void promise11Free() {
        t.test("11: without signs all words of a length, from 1 to 6", x -> dueFree(x, 2, 4, 8, 16, 32, 64));
        t.test("11: the length is out of range", x -> {
            for (int length : new int[] {0, 7, -1, 32, 33, Integer.MIN_VALUE, Integer.MAX_VALUE}) {
                t.fails(Sentences.BAD, () -> x.free(length, false));
                t.fails(Sentences.BAD, () -> x.free(length, true));
            }
        });
        t.test("11: a sign of one letter bars half of the words", x -> {
            Sentences.tell(x, "", "", "", "", "", "", "l");
            dueFree(x, 1, 2, 4, 8, 16, 32);
        });
        t.test("11: a sign of six letters bars one word of each length", x -> {
            Sentences.tell(x, "llslsl");
            dueFree(x, 1, 3, 7, 15, 31, 63);
        });
        t.test("11: none is free", x -> {
            Sentences.tell(x, "l", "", "", "", "", "", "s");
            dueFree(x, 0, 0, 0, 0, 0, 0);
        });
        t.test("11: what one sign begins is taken out once", x -> {
            Sentences.tell(x, "sl", "s", "sls", "slslsl", "ll", "lls");
            dueFree(x, 0, 1, 2, 4, 8, 16);
        });
        t.test("11: signs that are longer than the word bar one beginning once", x -> {
            Sentences.tell(x, "sss", "ssl", "ssssll", "sslsll", "ssslll");
            dueFree(x, 1, 3, 6, 12, 24, 48);
        });
        t.test("11: seven signs that leave one word", x -> {
            Sentences.tell(x, "lll", "lls", "lsl", "lss", "sll", "sls", "ssl");
            dueFree(x, 0, 0, 1, 2, 4, 8);
        });
        t.test("11: the only word that is free", x -> {
            Sentences.tell(x, "l", "sl", "ssl", "sssl", "ssssl", "sssssl");
            dueFree(x, 0, 0, 0, 0, 0, 1);
        });
    }

    private static void dueFree(WhistleJunction x, int... due) {
        for (int i = 0; i < due.length; i++) {
            int length = i + 1;
            t.due(due[i], () -> x.free(length, false));
            t.due(due[i], () -> x.free(length, true));
        }
    }
}
