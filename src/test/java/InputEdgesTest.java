/** Promises 32 to 35: a test for each sentence that names a boundary case. */
public final class InputEdgesTest {
    private static final String IS_BAD = "throws.java.lang.IllegalArgumentException";
    private static final String IS_REFUSED = "throws.java.lang.UnsupportedOperationException";
    private static final Sentences t = new Sentences();

    public static void main(String[] args) {
        promise32Append();
        promise32Refuses();
        promise33Read();
        promise33Malformed();
        promise33Refused();
        promise33Orders();
        promise34ErrorPosition();
        promise34EachOrder();
        promise34WhateverWasReadAfterIt();
        promise35RefusedItem();
        t.end("InputEdgesTest");
    }

    private static void promise32Append() {
        t.test("32: up to four characters, from the most significant byte to the least significant one", x -> {
            t.due(4, () -> x.append('s' << 24 | '6' << 16 | ':' << 8 | 'l'));
            t.due(5, () -> x.append('s'));
            t.due(1, () -> x.read());
            t.due("6:ls/0*10", () -> Check.written(x, x.text(6)));
        });
        t.test("32: bytes that are 0 are skipped: all, and each one", x -> {
            t.due(0, () -> x.append(0));
            t.due(3, () -> x.append('h' << 16 | ';' << 8 | 'h'));
            t.due(6, () -> x.append(';' << 24 | 'h' << 8 | ';'));
            t.due(9, () -> x.append('h' << 24 | ';' << 16 | 'h'));
            t.due(12, () -> x.append(';' << 24 | 'h' << 16 | ';' << 8));
            t.due(13, () -> x.append('h' << 24));
            t.due(14, () -> x.append(';' << 16));
            t.due(15, () -> x.append('h' << 8));
            t.due(8, () -> x.read());
        });
        t.test("32: codes from 32 to 126: the lowest and the highest in each byte", x -> {
            t.due(4, () -> x.append(32 << 24 | 126 << 16 | 32 << 8 | 126));
            t.due(8, () -> x.append(126 << 24 | 32 << 16 | 126 << 8 | 32));
        });
        t.test("32: the input buffer holds up to 60 characters", x -> {
            Check.append(x, "h".repeat(56));
            t.due(60, () -> x.append('h' << 24 | 'h' << 16 | 'h' << 8 | 'h'));
            t.due(60, () -> x.append(0));
        });
        t.test("32: the buffer is empty after it was read, and holds 60 again", x -> {
            Check.append(x, "h".repeat(60));
            Check.answerOf(() -> x.read());
            Check.append(x, "h".repeat(59));
            t.due(60, () -> x.append('h'));
        });
    }

    private static void promise32Refuses() {
        t.test("32: a byte that is not 0 is not from 32 to 126: in each byte", x -> {
            for (int code : new int[] {1, 31, 127, 128, 255}) {
                for (int shift = 0; shift < 32; shift += 8) {
                    int packed = code << shift;
                    t.fails(Sentences.BAD, () -> x.append(packed));
                }
            }
        });
        t.test("32: one wrong byte among right ones: none is appended", x -> {
            x.append('h');
            t.fails(Sentences.BAD, () -> x.append('h' << 24 | ';' << 16 | 'h' << 8 | 10));
            t.fails(Sentences.BAD, () -> x.append(10 << 24 | ';' << 16 | 'h' << 8 | 'h'));
            t.fails(Sentences.BAD, () -> x.append(-1));
            t.due(1, () -> x.account(14));
            t.due(1, () -> x.read());
        });
        t.test("32: there would be more than 60 characters: none is appended", x -> {
            Check.append(x, "h".repeat(57));
            t.fails(Sentences.NO_STATE, () -> x.append('h' << 24 | 'h' << 16 | 'h' << 8 | 'h'));
            t.due(57, () -> x.account(14));
            t.due(60, () -> x.append('h' << 24 | 'h' << 8 | 'h'));
            t.fails(Sentences.NO_STATE, () -> x.append('h'));
            t.fails(Sentences.NO_STATE, () -> x.append('h' << 24));
            t.due(60, () -> x.account(14));
        });
        t.test("32: a wrong byte is told ahead of too many characters", x -> {
            Check.append(x, "h".repeat(60));
            t.fails(Sentences.BAD, () -> x.append(31));
            t.fails(Sentences.BAD, () -> x.append('h' << 24 | 'h' << 16 | 'h' << 8 | 127));
        });
        t.test("32: it is no change, and a call that throws leaves the state unchanged", x -> {
            x.append('h');
            t.due(0, () -> x.account(15));
            t.leavesAll(x, () -> x.append(31), () -> x.append('h' << 24 | 5));
        });
    }

    private static void promise33Read() {
        t.test("33: returns the number of orders: one", x -> t.due(1, () -> Check.read(x, "h")));
        t.test("33: returns the number of orders: the most that 60 characters hold", x -> {
            Sentences.tell(x, "s");
            t.due(30, () -> Check.read(x, "h;".repeat(29) + "w0"));
            t.due(29, () -> x.account(0));
            t.due(1, () -> x.account(3));
        });
        t.test("33: one after the other: a later order sees what an earlier one did", x -> {
            t.due(6, () -> Check.read(x, "s0:s;l1>0;x1;f1;u0;s1:s"));
            t.due("1:s/0*8", () -> Check.written(x, x.text(1)));
            t.due(4, () -> x.lineOf(1, 4));
        });
        t.test("33: the buffer is empty afterwards: when the orders were carried out", x -> {
            Check.read(x, "h;h");
            t.due(0, () -> x.account(14));
        });
        t.test("33: the buffer is empty afterwards: when the input was malformed", x -> {
            t.due(IS_BAD, () -> Check.read(x, "h;h;"));
            t.due(0, () -> x.account(14));
            t.due(1, () -> Check.read(x, "h"));
        });
        t.test("33: the buffer is empty afterwards: when an order was refused", x -> {
            t.due(IS_REFUSED, () -> Check.read(x, "h;w0"));
            t.due(0, () -> x.account(14));
            t.due(1, () -> Check.read(x, "h"));
        });
        t.test("33: it is one change, however many orders there are", x -> {
            Check.read(x, "h;h;h");
            t.due(1, () -> x.account(15));
            t.due(0, () -> x.undo());
            t.due(0, () -> x.account(0));
        });
        t.test("33: an echo is heard in the midst of the orders", x -> {
            Sentences.tell(x, "s");
            x.platform(0, 1, 1);
            t.due(4, () -> Check.read(x, "w0;h;h;w0"));
            t.due(1, () -> x.account(10));
            t.due(1, () -> x.platformOf(0, 2));
        });
    }

    private static void promise33Malformed() {
        t.test("33: the input is malformed: an empty buffer", x -> {
            t.due(IS_BAD, () -> Check.answerOf(() -> x.read()));
            t.due(0, () -> x.errorPosition());
        });
        t.test("33: the input is malformed: then no order is carried out", x -> {
            String before = Check.state(x);
            t.due(IS_BAD, () -> Check.read(x, "s0:s;w0;h;h;q"));
            t.due(before, () -> Check.state(x));
            t.due(0, () -> x.account(15));
        });
        t.test("33: malformed is told ahead of an order that would be refused", x -> {
            t.due(IS_BAD, () -> Check.read(x, "w0;w7;;"));
            t.due(6, () -> x.errorPosition());
            t.fails(Sentences.NONE, () -> x.refusedItem());
            t.fails(Sentences.NO_STATE, () -> x.refusal(false));
        });
    }

    private static void promise33Refused() {
        t.test("33: all of them or none: the first order is refused", x -> {
            String before = Check.state(x);
            t.due(IS_REFUSED, () -> Check.read(x, "w0;h;h"));
            t.due(before, () -> Check.state(x));
            t.due(0, () -> x.refusedItem());
            t.due("2:0", () -> Check.refusal(x));
        });
        t.test("33: all of them or none: the last order is refused", x -> {
            String before = Check.state(x);
            t.due(IS_REFUSED, () -> Check.read(x, "s0:s;p0=4;w0;l1>0;x1;m2:2;f2;h;u0;w0"));
            t.due(before, () -> Check.state(x));
            t.due(9, () -> x.refusedItem());
            t.due("2:0", () -> Check.refusal(x));
            t.due(0, () -> x.account(15));
        });
        t.test("33: the refusal tells of the state in which the order was", x -> {
            t.due(IS_REFUSED, () -> Check.read(x, "s0:s;h;h;w0;w0"));
            t.due("5:2", () -> Check.refusal(x));
            t.due(0, () -> x.account(0));
        });
        t.test("33: if there is no refusal, the one before stays", x -> {
            Check.answerOf(() -> x.fine(0));
            for (String order : new String[] {"s7:s", "u8", "p9=1", "w7", "l7>0", "l0>7", "x9", "m7:1", "f8"}) {
                t.due(IS_REFUSED, () -> Check.read(x, order));
                t.due("8:10", () -> Check.refusal(x));
            }
        });
        t.test("33: if a method would throw for a wrong number, there is no refusal", x -> {
            Sentences.tell(x, "s");
            t.due(IS_REFUSED, () -> Check.read(x, "h;l0>0"));
            t.due(1, () -> x.refusedItem());
            t.due(IS_REFUSED, () -> Check.read(x, "h;h;m0:0"));
            t.due(2, () -> x.refusedItem());
            t.fails(Sentences.NO_STATE, () -> x.refusal(false));
        });
        t.test("33: what could be undone before, still can", x -> {
            Sentences.hours(x, 9);
            t.due(IS_REFUSED, () -> Check.read(x, "h;h;w0"));
            t.due(8, () -> x.account(15));
            for (int left = 7; left >= 0; left--) {
                int due = left;
                t.due(due, () -> x.undo());
            }
            t.due(1, () -> x.account(0));
        });
    }

    private static void promise33Orders() {
        t.test("33: s tells a sign: a word of one letter and of six", x -> {
            t.due(3, () -> Check.read(x, "s0:s;s1:l;s6:lslssl"));
            t.due("0:s/0*10", () -> Check.written(x, x.text(0)));
            t.due("1:l/0*10", () -> Check.written(x, x.text(1)));
            t.due("6:lslssl/0*10", () -> Check.written(x, x.text(6)));
        });
        t.test("33: u takes it away", x -> {
            Sentences.tell(x, "s", "", "", "", "", "", "l");
            t.due(1, () -> Check.read(x, "u6"));
            t.dueOfLines(x, 0, 1, 0, 0, 0, 0, 0, 0);
        });
        t.test("33: p tells a priority: 9 and 0", x -> {
            t.due(2, () -> Check.read(x, "p6=9;p0=1"));
            t.due(1, () -> Check.read(x, "p0=0"));
            t.dueOfLines(x, 2, 0, 0, 0, 0, 0, 0, 9);
        });
        t.test("33: w whistles", x -> {
            Sentences.tell(x, "s", "", "", "", "", "", "l");
            t.due(2, () -> Check.read(x, "w6;w0"));
            t.due(6, () -> x.heard(0, 1));
            t.due(0, () -> x.account(7));
        });
        t.test("33: l lies with the sign of the second one", x -> {
            Sentences.tell(x, "s");
            t.due(1, () -> Check.read(x, "l6>0"));
            t.due(6, () -> x.heard(0, 1));
            t.due(0, () -> x.heard(0, 0));
            t.due(8, () -> x.lineOf(6, 3));
        });
        t.test("33: x exposes it", x -> {
            Sentences.tell(x, "s");
            x.lie(6, 0);
            t.due(1, () -> Check.read(x, "x6"));
            t.dueOfLines(x, 8, 0, 0, 0, 0, 0, 0, 1);
            t.due(3, () -> x.lineOf(6, 5));
        });
        t.test("33: m mutes it for so many hours: 1 and 9", x -> {
            t.due(2, () -> Check.read(x, "m0:1;m6:9"));
            t.dueOfLines(x, 5, 1, 0, 0, 0, 0, 0, 9);
        });
        t.test("33: f pays the fine", x -> {
            x.mute(6, 2);
            t.due(1, () -> Check.read(x, "f6"));
            t.dueOfLines(x, 4, 10, 10, 10, 10, 10, 10, 6);
        });
        t.test("33: h ends the hour", x -> {
            t.due(1, () -> Check.read(x, "h"));
            t.due(1, () -> x.account(0));
        });
        t.test("33: lines have one digit: those from 7 on are no lines of a method", x -> {
            for (String order : new String[] {"w7", "w8", "w9"}) {
                t.due(IS_REFUSED, () -> Check.read(x, order));
            }
            t.fails(Sentences.NONE, () -> x.errorPosition());
        });
    }

    private static void dueError(WhistleJunction x, String input, int due) {
        t.due(IS_BAD, () -> Check.read(x, input));
        t.due(due, () -> x.errorPosition());
    }

    private static void promise34ErrorPosition() {
        t.test("34: there was none", x -> {
            t.fails(Sentences.NONE, () -> x.errorPosition());
            Check.read(x, "h");
            Check.read(x, "w0");
            t.fails(Sentences.NONE, () -> x.errorPosition());
        });
        t.test("34: the lowest index of a character with which no such input can go on: the first", x -> {
            for (String input : new String[] {" ", "a", "H", "S0:s", "0", ";", ";h", "~", "=", ":"}) {
                dueError(x, input, 0);
            }
        });
        t.test("34: of two wrong characters the first one", x -> {
            dueError(x, "h;w?;q", 3);
            dueError(x, "h?;q", 1);
        });
        t.test("34: or the length of the input: nothing", x -> dueError(x, "", 0));
        t.test("34: or the length of the input: an order is missing behind the last ;", x -> {
            dueError(x, "h;", 2);
            dueError(x, "s0:llllll;", 10);
        });
        t.test("34: or the length of the input: of 59 and of 60 characters", x -> {
            dueError(x, "h;".repeat(28) + "s0:", 59);
            dueError(x, "h;".repeat(29) + "w", 59);
            dueError(x, "h;".repeat(30), 60);
        });
        t.test("34: the last character of 60", x -> {
            dueError(x, "h;".repeat(29) + "w?", 59);
            dueError(x, "h;".repeat(29) + "hh", 59);
        });
        t.test("34: one or more orders with ; between them: none ahead, two between", x -> {
            dueError(x, ";h", 0);
            dueError(x, "h;;h", 2);
            dueError(x, "h,h", 1);
            dueError(x, "h h", 1);
            dueError(x, "h; h", 2);
        });
        t.test("34: a seventh letter of a word is such a character", x -> {
            dueError(x, "s0:sssssss", 9);
            dueError(x, "s0:lllllll", 9);
            dueError(x, "h;s6:slslsll;h", 11);
            t.due(1, () -> Check.read(x, "s0:slslsl"));
        });
        t.test("34: a word has one letter at least", x -> {
            dueError(x, "s0:", 3);
            dueError(x, "s0:;h", 3);
        });
        t.test("34: a word is letters l and s, not L, S or others", x -> {
            dueError(x, "s0:L", 3);
            dueError(x, "s0:S", 3);
            dueError(x, "s0:k", 3);
            dueError(x, "s0:m", 3);
            dueError(x, "s0:r", 3);
            dueError(x, "s0:t", 3);
            dueError(x, "s0:sx", 4);
            dueError(x, "s0:ls l", 5);
        });
        t.test("34: lines have one digit", x -> {
            dueError(x, "u10", 2);
            dueError(x, "w00", 2);
            dueError(x, "s12:s", 2);
            dueError(x, "l0>11", 4);
        });
        t.test("34: the characters ahead of 0 and behind 9 are no digits", x -> {
            dueError(x, "w/", 1);
            dueError(x, "w:", 1);
            dueError(x, "p0=/", 3);
            dueError(x, "p0=:", 3);
            dueError(x, "m0:/", 3);
            dueError(x, "m0::", 3);
        });
        t.test("34: a minus is no digit", x -> {
            dueError(x, "w-1", 1);
            dueError(x, "m0:-1", 3);
        });
    }

    private static void promise34EachOrder() {
        t.test("34: in an order that tells a sign", x -> {
            dueError(x, "s", 1);
            dueError(x, "ss", 1);
            dueError(x, "s:", 1);
            dueError(x, "s0", 2);
            dueError(x, "s0=s", 2);
            dueError(x, "s0s", 2);
            dueError(x, "s0:s:", 4);
        });
        t.test("34: in an order that takes a sign away", x -> {
            dueError(x, "u", 1);
            dueError(x, "u;", 1);
            dueError(x, "u0:", 2);
        });
        t.test("34: in an order that tells a priority", x -> {
            dueError(x, "p", 1);
            dueError(x, "p=", 1);
            dueError(x, "p0", 2);
            dueError(x, "p0:1", 2);
            dueError(x, "p0=", 3);
            dueError(x, "p0=;", 3);
            dueError(x, "p0=s", 3);
            dueError(x, "p0=10", 4);
        });
        t.test("34: in an order that whistles", x -> {
            dueError(x, "w", 1);
            dueError(x, "ws", 1);
            dueError(x, "w0>", 2);
        });
        t.test("34: in an order that lies", x -> {
            dueError(x, "l", 1);
            dueError(x, "l>", 1);
            dueError(x, "l0", 2);
            dueError(x, "l0:1", 2);
            dueError(x, "l0<1", 2);
            dueError(x, "l0>", 3);
            dueError(x, "l0>;", 3);
            dueError(x, "l0>s", 3);
            dueError(x, "l0>1>", 4);
        });
        t.test("34: in an order that exposes", x -> {
            dueError(x, "x", 1);
            dueError(x, "xx", 1);
            dueError(x, "x0x", 2);
        });
        t.test("34: in an order that mutes", x -> {
            dueError(x, "m", 1);
            dueError(x, "m:", 1);
            dueError(x, "m0", 2);
            dueError(x, "m0=1", 2);
            dueError(x, "m0:", 3);
            dueError(x, "m0:;", 3);
            dueError(x, "m0:12", 4);
        });
        t.test("34: in an order that pays the fine", x -> {
            dueError(x, "f", 1);
            dueError(x, "f;f0", 1);
            dueError(x, "f0=", 2);
        });
        t.test("34: in an order that ends the hour", x -> {
            dueError(x, "h0", 1);
            dueError(x, "hh", 1);
            dueError(x, "h:", 1);
        });
        t.test("34: what would be refused is formed well all the same", x -> {
            dueError(x, "w9;l3>3;m0:0;x8;p7=0;?", 21);
        });
    }

    private static void promise34WhateverWasReadAfterIt() {
        t.test("34: of the last input that was malformed", x -> {
            dueError(x, "h;w?", 3);
            dueError(x, "?", 0);
            dueError(x, "h;", 2);
        });
        t.test("34: whatever was read after it", x -> {
            dueError(x, "h;w?", 3);
            Check.read(x, "h");
            Check.read(x, "h;h;h;w0");
            t.due(3, () -> x.errorPosition());
        });
        t.test("34: the error position is neither undone nor saved", x -> {
            x.snapshot();
            x.hour();
            dueError(x, "h;w?", 3);
            x.undo();
            t.due(3, () -> x.errorPosition());
            x.restore();
            t.due(3, () -> x.errorPosition());
        });
        t.test("34: a snapshot does not bring an older one back", x -> {
            dueError(x, "h;w?", 3);
            x.snapshot();
            dueError(x, "h;", 2);
            x.restore();
            t.due(2, () -> x.errorPosition());
        });
    }

    private static void promise35RefusedItem() {
        t.test("35: there was none", x -> {
            t.fails(Sentences.NONE, () -> x.refusedItem());
            Check.read(x, "h");
            Check.read(x, "h;");
            Check.answerOf(() -> x.whistle(0));
            t.fails(Sentences.NONE, () -> x.refusedItem());
        });
        t.test("35: the number of this order, counted from 0: the first", x -> {
            t.due(IS_REFUSED, () -> Check.read(x, "w0;w1;h"));
            t.due(0, () -> x.refusedItem());
        });
        t.test("35: the number of this order, counted from 0: the last of 30", x -> {
            t.due(IS_REFUSED, () -> Check.read(x, "h;".repeat(29) + "w0"));
            t.due(29, () -> x.refusedItem());
        });
        t.test("35: for which the last input was refused", x -> {
            Check.read(x, "h;h;w0");
            Check.read(x, "w0");
            t.due(0, () -> x.refusedItem());
            Check.read(x, "h;w0");
            t.due(1, () -> x.refusedItem());
        });
        t.test("35: whatever was read after it", x -> {
            Check.read(x, "h;h;w0");
            Check.read(x, "h");
            Check.read(x, "?");
            t.due(2, () -> x.refusedItem());
        });
        t.test("35: the refused item is neither undone nor saved", x -> {
            x.snapshot();
            x.hour();
            Check.read(x, "h;h;w0");
            x.undo();
            t.due(2, () -> x.refusedItem());
            x.restore();
            t.due(2, () -> x.refusedItem());
        });
        t.test("35: a snapshot does not bring an older one back", x -> {
            Check.read(x, "h;h;w0");
            x.snapshot();
            Check.read(x, "h;w0");
            x.restore();
            t.due(1, () -> x.refusedItem());
        });
    }
}
