/** Promises 12 to 16: a test for each sentence that names a boundary case. */
public final class WhistlesEdgesTest {
    private static final Sentences t = new Sentences();

    public static void main(String[] args) {
        promise12Whistle();
        promise12Refused();
        promise13Lie();
        promise13Refused();
        promise14Expose();
        promise14Refused();
        promise15Mute();
        promise16Fine();
        promise16Refused();
        t.end("WhistlesEdgesTest");
    }

    private static void promise12Whistle() {
        t.test("12: returns its steam then: the first and the last line", x -> {
            Sentences.tell(x, "s", "", "", "", "", "", "lls");
            t.due(9, () -> x.whistle(0));
            t.due(5, () -> x.whistle(6));
        });
        t.test("12: its own sign takes the steam of this word, all that it has", x -> {
            Sentences.tell(x, "lllll");
            t.due(0, () -> x.whistle(0));
            t.dueOfLines(x, 3, 0, 10, 10, 10, 10, 10, 10);
        });
        t.test("12: all of the most steam but what the dearest word leaves", x -> {
            Sentences.tell(x, "llllll");
            Sentences.hours(x, 5);
            t.due(8, () -> x.whistle(0));
        });
        t.test("12: once in an hour, and again in the next", x -> {
            Sentences.tell(x, "s");
            x.whistle(0);
            t.refused(x, 5, 0, () -> x.whistle(0));
            x.hour();
            t.due(10, () -> x.whistle(0));
            t.refused(x, 5, 1, () -> x.whistle(0));
        });
        t.test("12: a line that is told anew has still whistled", x -> {
            Sentences.tell(x, "s");
            x.whistle(0);
            x.sign(0, 1, 1);
            t.refused(x, 5, 0, () -> x.whistle(0));
        });
        t.test("12: an echo of a line does not keep it from a whistle", x -> {
            Sentences.tell(x, "s");
            x.platform(0, 1, 1);
            x.whistle(0);
            x.hour();
            t.due(10, () -> x.whistle(0));
        });
        t.test("12: it is heard last, and stands behind all other letters on the strip", x -> {
            Sentences.tell(x, "s", "lls", "sl");
            x.whistle(1);
            x.whistle(0);
            t.due(2, () -> x.account(3));
            t.due(1, () -> x.heard(0, 0));
            t.due(0, () -> x.heard(1, 0));
            x.strip();
            t.due("llss", () -> Check.line(x));
        });
        t.test("12: it is no lie", x -> {
            Sentences.tell(x, "s");
            x.whistle(0);
            t.due(1, () -> x.account(6));
            t.due(0, () -> x.account(7));
        });
        t.test("12: no such line", x -> {
            for (int line : Sentences.NO_LINES) {
                t.fails(Sentences.NO_INDEX, () -> x.whistle(line));
            }
            t.fails(Sentences.NO_STATE, () -> x.refusal(false));
        });
    }

    private static void promise12Refused() {
        t.test("12: refused for the reason 2: how many lines have a sign, none", x -> t.refused(x, 2, 0, () -> x.whistle(6)));
        t.test("12: refused for the reason 2: how many lines have a sign, six", x -> {
            Sentences.tell(x, "s", "l", "ss", "ll", "sl", "ls");
            t.refused(x, 2, 6, () -> x.whistle(6));
        });
        t.test("12: refused for the reason 4: for how many hours it is muted, one", x -> {
            Sentences.tell(x, "s");
            x.mute(0, 1);
            t.refused(x, 4, 1, () -> x.whistle(0));
            x.hour();
            t.due(9, () -> x.whistle(0));
        });
        t.test("12: refused for the reason 4: for the most hours for which it can be muted", x -> {
            Sentences.tell(x, "s", "l");
            x.lie(0, 1);
            x.mute(0, 9);
            x.expose(0);
            t.refused(x, 4, 12, () -> x.whistle(0));
        });
        t.test("12: refused for the reason 5: the hour", x -> {
            Sentences.tell(x, "s");
            Sentences.hours(x, 30);
            x.whistle(0);
            t.refused(x, 5, 30, () -> x.whistle(0));
        });
        t.test("12: refused for the reason 5 after a lie", x -> {
            Sentences.tell(x, "s", "l");
            x.lie(0, 1);
            t.refused(x, 5, 0, () -> x.whistle(0));
        });
        t.test("12: refused for the reason 6: how much is lacking, one", x -> {
            Sentences.tell(x, "llllls");
            t.refused(x, 6, 1, () -> x.whistle(0));
            x.hour();
            t.due(1, () -> x.whistle(0));
        });
        t.test("12: refused for the reason 6: the most that can be lacking", x -> {
            Sentences.tell(x, "lllll");
            x.whistle(0);
            x.mute(0, 1);
            x.sign(0, 6, 63);
            x.hour();
            t.refused(x, 6, 12, () -> x.whistle(0));
        });
        t.test("12: the first reason is told: 2 ahead of 4 and 5", x -> {
            Sentences.tell(x, "s", "l");
            x.whistle(0);
            x.mute(0, 2);
            x.unsign(0);
            t.refused(x, 2, 1, () -> x.whistle(0));
        });
        t.test("12: the first reason is told: 4 ahead of 5 and 6", x -> {
            Sentences.tell(x, "lllll");
            x.whistle(0);
            x.mute(0, 2);
            t.refused(x, 4, 2, () -> x.whistle(0));
        });
        t.test("12: the first reason is told: 5 ahead of 6", x -> {
            Sentences.tell(x, "lllll");
            x.whistle(0);
            t.refused(x, 5, 0, () -> x.whistle(0));
        });
        t.test("12: a call that throws leaves the state unchanged", x -> {
            Sentences.tell(x, "s", "l", "", "llllll");
            x.platform(0, 1, 127);
            x.whistle(0);
            x.mute(1, 1);
            t.leavesAll(x, () -> x.whistle(0), () -> x.whistle(1), () -> x.whistle(2), () -> x.whistle(3), () -> x.whistle(7));
        });
    }

    private static void promise13Lie() {
        t.test("13: a lie takes twice as much; returns its steam then", x -> {
            Sentences.tell(x, "s", "", "", "", "", "", "l");
            t.due(8, () -> x.lie(6, 0));
            t.due(6, () -> x.lie(0, 6));
        });
        t.test("13: a lie takes all the steam that the line has", x -> {
            Sentences.tell(x, "lls");
            t.due(0, () -> x.lie(1, 0));
        });
        t.test("13: all of the most steam", x -> {
            Sentences.tell(x, "lllll");
            Sentences.hours(x, 5);
            t.due(0, () -> x.lie(1, 0));
        });
        t.test("13: a line without a sign can lie", x -> {
            Sentences.tell(x, "s");
            t.due(8, () -> x.lie(3, 0));
        });
        t.test("13: what is heard is the sign of the line that is told by it", x -> {
            Sentences.tell(x, "ssl", "l");
            x.lie(1, 0);
            t.due(0, () -> x.heard(0, 0));
            t.due(1, () -> x.heard(0, 1));
            t.due(3, () -> x.heard(0, 3));
            t.due(4, () -> x.heard(0, 4));
        });
        t.test("13: the line whose sign it whistles keeps its steam, and can whistle still", x -> {
            Sentences.tell(x, "s", "l");
            x.lie(1, 0);
            t.due(9, () -> x.whistle(0));
        });
        t.test("13: two lines can lie with one sign", x -> {
            Sentences.tell(x, "s");
            x.lie(1, 0);
            t.due(8, () -> x.lie(2, 0));
        });
        t.test("13: a lie is a whistle, too", x -> {
            Sentences.tell(x, "s");
            x.lie(1, 0);
            t.due(1, () -> x.account(6));
            t.due(1, () -> x.account(7));
            t.due(1, () -> x.lineOf(1, 9));
        });
        t.test("13: when a line of its set whistles, be it a lie or not, a platform echoes", x -> {
            Sentences.tell(x, "s");
            x.platform(0, 1, 2);
            x.platform(1, 1, 1);
            x.lie(1, 0);
            t.due(1, () -> x.platformOf(0, 3));
            t.due(0, () -> x.platformOf(1, 3));
        });
        t.test("13: no such line, for either", x -> {
            Sentences.tell(x, "s");
            for (int line : Sentences.NO_LINES) {
                t.fails(Sentences.NO_INDEX, () -> x.lie(line, 0));
                t.fails(Sentences.NO_INDEX, () -> x.lie(0, line));
            }
        });
        t.test("13: both are one", x -> {
            Sentences.tell(x, "s");
            t.fails(Sentences.BAD, () -> x.lie(0, 0));
            t.fails(Sentences.BAD, () -> x.lie(6, 6));
        });
        t.test("13: a missing line is told ahead of both being one", x -> {
            t.fails(Sentences.NO_INDEX, () -> x.lie(7, 7));
            t.fails(Sentences.NO_INDEX, () -> x.lie(-1, -1));
        });
        t.test("13: both being one is told ahead of a reason, and is no refusal", x -> {
            x.mute(6, 1);
            t.fails(Sentences.BAD, () -> x.lie(6, 6));
            t.fails(Sentences.NO_STATE, () -> x.refusal(false));
        });
    }

    private static void promise13Refused() {
        t.test("13: refused for the reason 2: the line told of has no sign", x -> {
            t.refused(x, 2, 0, () -> x.lie(0, 6));
            Sentences.tell(x, "s", "l", "ss", "ll", "sl", "ls");
            t.refused(x, 2, 6, () -> x.lie(0, 6));
        });
        t.test("13: refused for the reason 4: for how many hours it is muted", x -> {
            Sentences.tell(x, "s");
            x.mute(1, 1);
            x.mute(2, 9);
            t.refused(x, 4, 1, () -> x.lie(1, 0));
            t.refused(x, 4, 9, () -> x.lie(2, 0));
            x.hour();
            t.due(8, () -> x.lie(1, 0));
        });
        t.test("13: that the line told of is muted, does not hinder", x -> {
            Sentences.tell(x, "s");
            x.mute(0, 9);
            t.due(8, () -> x.lie(1, 0));
        });
        t.test("13: refused for the reason 5 after a whistle and after a lie", x -> {
            Sentences.tell(x, "s", "l");
            x.hour();
            x.whistle(0);
            x.lie(2, 1);
            t.refused(x, 5, 1, () -> x.lie(0, 1));
            t.refused(x, 5, 1, () -> x.lie(2, 0));
            x.hour();
            t.due(9, () -> x.lie(0, 1));
        });
        t.test("13: refused for the reason 6: how much is lacking, one", x -> {
            Sentences.tell(x, "llss", "s");
            x.whistle(1);
            x.hour();
            t.refused(x, 6, 1, () -> x.lie(1, 0));
            x.hour();
            t.due(1, () -> x.lie(1, 0));
        });
        t.test("13: refused for the reason 6: how much is lacking, the most", x -> {
            Sentences.tell(x, "lllll", "llllll");
            x.whistle(0);
            x.mute(0, 1);
            x.hour();
            t.refused(x, 6, 24, () -> x.lie(0, 1));
        });
        t.test("13: refused for the reason 6: of the dearest word even with the most steam", x -> {
            Sentences.tell(x, "", "llllll");
            Sentences.hours(x, 9);
            t.refused(x, 6, 4, () -> x.lie(0, 1));
        });
        t.test("13: the first reason is told: 2 ahead of 4 and 5", x -> {
            Sentences.tell(x, "s");
            x.whistle(0);
            x.mute(0, 2);
            t.refused(x, 2, 1, () -> x.lie(0, 1));
        });
        t.test("13: the first reason is told: 4 ahead of 5 and 6", x -> {
            Sentences.tell(x, "lllll", "s");
            x.whistle(0);
            x.mute(0, 2);
            t.refused(x, 4, 2, () -> x.lie(0, 1));
        });
        t.test("13: the first reason is told: 5 ahead of 6", x -> {
            Sentences.tell(x, "lllll", "s");
            x.whistle(0);
            t.refused(x, 5, 0, () -> x.lie(0, 1));
        });
        t.test("13: a call that throws leaves the state unchanged", x -> {
            Sentences.tell(x, "s", "l", "", "llllll");
            x.platform(0, 1, 127);
            x.whistle(0);
            x.mute(1, 1);
            t.leavesAll(x, () -> x.lie(0, 1), () -> x.lie(1, 0), () -> x.lie(4, 2), () -> x.lie(4, 3), () -> x.lie(4, 4),
                () -> x.lie(7, 0), () -> x.lie(0, 7));
        });
    }

    private static void promise14Expose() {
        t.test("14: returns for how many hours it is muted then: 3", x -> {
            Sentences.tell(x, "s", "l");
            x.lie(0, 1);
            x.lie(6, 1);
            t.due(3, () -> x.expose(0));
            t.due(3, () -> x.expose(6));
            t.dueOfLines(x, 5, 3, 0, 0, 0, 0, 0, 3);
        });
        t.test("14: 3 hours more, if it is muted already for one hour, and for the most", x -> {
            Sentences.tell(x, "s", "l");
            x.lie(0, 1);
            x.lie(6, 1);
            x.mute(0, 1);
            x.mute(6, 9);
            t.due(4, () -> x.expose(0));
            t.due(12, () -> x.expose(6));
        });
        t.test("14: 3 hours after a fine that was paid in the same hour", x -> {
            Sentences.tell(x, "s");
            x.lie(1, 0);
            x.mute(1, 1);
            x.fine(1);
            t.due(3, () -> x.expose(1));
        });
        t.test("14: the lie is heard no more, of several the one of this line", x -> {
            Sentences.tell(x, "s");
            x.lie(1, 0);
            x.lie(2, 0);
            x.lie(3, 0);
            x.expose(2);
            t.due(2, () -> x.account(3));
            t.due(1, () -> x.heard(0, 1));
            t.due(3, () -> x.heard(1, 1));
            x.expose(1);
            x.expose(3);
            t.due(0, () -> x.account(3));
            t.due(-1, () -> x.way());
        });
        t.test("14: its letters stay on the strip", x -> {
            Sentences.tell(x, "s", "lls");
            x.whistle(0);
            x.lie(2, 1);
            x.expose(2);
            t.due(4, () -> x.account(4));
            t.due(4, () -> x.strip());
            t.due("slls", () -> Check.line(x));
            t.due(1, () -> x.reading(1));
        });
        t.test("14: echoes of a lie that was exposed come all the same", x -> {
            Sentences.tell(x, "s");
            x.platform(0, 1, 2);
            x.lie(1, 0);
            x.expose(1);
            t.due(1, () -> x.account(5));
            t.due(-1, () -> x.hour());
            t.due(1, () -> x.account(3));
            t.due(1, () -> x.heard(0, 1));
            t.due(-2, () -> x.hour());
        });
        t.test("14: its lie and its whistle are counted still, and its steam does not come back", x -> {
            Sentences.tell(x, "s");
            x.lie(1, 0);
            x.expose(1);
            t.due(1, () -> x.account(6));
            t.due(1, () -> x.account(7));
            t.due(1, () -> x.account(8));
            t.due(8, () -> x.lineOf(1, 3));
            t.due(1, () -> x.lineOf(1, 9));
        });
        t.test("14: no such line", x -> {
            for (int line : Sentences.NO_LINES) {
                t.fails(Sentences.NO_INDEX, () -> x.expose(line));
            }
            t.fails(Sentences.NO_STATE, () -> x.refusal(false));
        });
    }

    private static void promise14Refused() {
        t.test("14: refused for the reason 7: it did nothing, and nothing is heard", x -> t.refused(x, 7, 0, () -> x.expose(0)));
        t.test("14: refused for the reason 7: a whistle of its own sign", x -> {
            Sentences.tell(x, "s");
            x.whistle(0);
            t.refused(x, 7, 1, () -> x.expose(0));
        });
        t.test("14: refused for the reason 7: the line that a lie tells of", x -> {
            Sentences.tell(x, "s");
            x.lie(1, 0);
            t.refused(x, 7, 1, () -> x.expose(0));
        });
        t.test("14: refused for the reason 7: it was exposed; what is exposed is not counted", x -> {
            Sentences.tell(x, "s");
            x.lie(1, 0);
            x.lie(2, 0);
            x.expose(1);
            t.refused(x, 7, 1, () -> x.expose(1));
            x.expose(2);
            t.refused(x, 7, 0, () -> x.expose(2));
        });
        t.test("14: refused for the reason 7: it lied in the hour before", x -> {
            Sentences.tell(x, "s");
            x.lie(1, 0);
            x.hour();
            t.refused(x, 7, 0, () -> x.expose(1));
        });
        t.test("14: refused for the reason 7: what is heard is an echo of its lie", x -> {
            Sentences.tell(x, "s");
            x.platform(0, 1, 2);
            x.platform(3, 1, 2);
            x.lie(1, 0);
            x.hour();
            t.refused(x, 7, 2, () -> x.expose(1));
        });
        t.test("14: the lie of an hour in which an echo of an older lie is heard", x -> {
            Sentences.tell(x, "s");
            x.platform(0, 1, 2);
            x.lie(1, 0);
            x.hour();
            x.lie(1, 0);
            t.due(3, () -> x.expose(1));
            t.due(1, () -> x.account(3));
            t.due(0, () -> x.heard(0, 2));
        });
        t.test("14: a call that throws leaves the state unchanged", x -> {
            Sentences.tell(x, "s");
            x.lie(1, 0);
            x.expose(1);
            x.whistle(0);
            t.leavesAll(x, () -> x.expose(0), () -> x.expose(1), () -> x.expose(2), () -> x.expose(7), () -> x.expose(-1));
        });
    }

    private static void promise15Mute() {
        t.test("15: for 1 to 9 hours; returns how many lines are muted then", x -> {
            t.due(1, () -> x.mute(0, 1));
            t.due(2, () -> x.mute(6, 9));
            t.dueOfLines(x, 5, 1, 0, 0, 0, 0, 0, 9);
        });
        t.test("15: returns how many lines are muted then: all", x -> {
            for (int line = 0; line < 7; line++) {
                int of = line;
                t.due(line + 1, () -> x.mute(of, 2));
            }
        });
        t.test("15: the number is out of range", x -> {
            for (int hours : new int[] {0, 10, -1, Integer.MIN_VALUE, Integer.MAX_VALUE}) {
                t.fails(Sentences.BAD, () -> x.mute(0, hours));
            }
        });
        t.test("15: no such line", x -> {
            for (int line : Sentences.NO_LINES) {
                t.fails(Sentences.NO_INDEX, () -> x.mute(line, 1));
            }
        });
        t.test("15: a missing line is told ahead of a wrong number, and that ahead of the reason 4", x -> {
            x.mute(0, 1);
            t.fails(Sentences.NO_INDEX, () -> x.mute(7, 0));
            t.fails(Sentences.NO_INDEX, () -> x.mute(-1, 10));
            t.fails(Sentences.BAD, () -> x.mute(0, 0));
            t.fails(Sentences.BAD, () -> x.mute(0, 10));
            t.fails(Sentences.NO_STATE, () -> x.refusal(false));
        });
        t.test("15: refused for the reason 4: for how many hours, the least and the most", x -> {
            Sentences.tell(x, "s");
            x.mute(0, 1);
            x.lie(1, 0);
            x.mute(1, 9);
            x.expose(1);
            t.refused(x, 4, 1, () -> x.mute(0, 9));
            t.refused(x, 4, 12, () -> x.mute(1, 1));
        });
        t.test("15: a line whose mute is over can be muted again", x -> {
            x.mute(0, 1);
            x.hour();
            t.due(1, () -> x.mute(0, 1));
        });
        t.test("15: a line that is muted after it whistled is heard all the same", x -> {
            Sentences.tell(x, "s");
            x.whistle(0);
            x.mute(0, 9);
            t.due(1, () -> x.account(3));
            t.due(0, () -> x.way());
            t.due(0, () -> x.hour());
            t.due(13, () -> x.lineOf(0, 4));
        });
        t.test("15: what a muted line whistled before is echoed", x -> {
            Sentences.tell(x, "s");
            x.platform(0, 1, 1);
            x.whistle(0);
            x.mute(0, 9);
            x.hour();
            t.due(1, () -> x.account(3));
        });
        t.test("15: a call that throws leaves the state unchanged", x -> {
            x.mute(0, 3);
            t.leavesAll(x, () -> x.mute(0, 3), () -> x.mute(1, 0), () -> x.mute(1, 10), () -> x.mute(7, 3));
        });
    }

    private static void promise16Fine() {
        t.test("16: 2 coins for each hour for which it is muted: one; returns its coins then", x -> {
            x.mute(0, 1);
            t.due(8, () -> x.fine(0));
        });
        t.test("16: 2 coins for each hour for which it is muted: all the coins", x -> {
            x.mute(6, 5);
            t.due(0, () -> x.fine(6));
            t.dueOfLines(x, 4, 10, 10, 10, 10, 10, 10, 0);
        });
        t.test("16: the hours that are over cost nothing", x -> {
            x.mute(6, 6);
            x.hour();
            t.due(0, () -> x.fine(6));
        });
        t.test("16: by which it is muted no more, and can whistle at once", x -> {
            Sentences.tell(x, "s");
            x.mute(0, 5);
            x.fine(0);
            t.due(0, () -> x.account(2));
            t.due(0, () -> x.lineOf(0, 5));
            t.due(9, () -> x.whistle(0));
        });
        t.test("16: a line that pays gets steam at the end of the hour", x -> {
            x.mute(0, 1);
            x.mute(1, 1);
            x.fine(0);
            x.hour();
            t.dueOfLines(x, 3, 12, 10, 12, 12, 12, 12, 12);
        });
        t.test("16: no such line", x -> {
            for (int line : Sentences.NO_LINES) {
                t.fails(Sentences.NO_INDEX, () -> x.fine(line));
            }
            t.fails(Sentences.NO_STATE, () -> x.refusal(false));
        });
    }

    private static void promise16Refused() {
        t.test("16: refused for the reason 8: its coins", x -> {
            t.refused(x, 8, 10, () -> x.fine(0));
            x.mute(0, 5);
            x.fine(0);
            t.refused(x, 8, 0, () -> x.fine(0));
        });
        t.test("16: refused for the reason 8: a mute that is over", x -> {
            x.mute(6, 1);
            x.hour();
            t.refused(x, 8, 10, () -> x.fine(6));
        });
        t.test("16: refused for the reason 9: how many are lacking, one", x -> {
            Sentences.tell(x, "s");
            x.whistle(0);
            x.hour();
            x.mute(0, 7);
            t.refused(x, 9, 1, () -> x.fine(0));
            x.hour();
            t.due(1, () -> x.fine(0));
        });
        t.test("16: refused for the reason 9: how many are lacking, the most", x -> {
            Sentences.tell(x, "s");
            x.mute(1, 5);
            x.fine(1);
            x.lie(1, 0);
            x.mute(1, 9);
            x.expose(1);
            t.refused(x, 9, 24, () -> x.fine(1));
        });
        t.test("16: a call that throws leaves the state unchanged", x -> {
            x.mute(0, 6);
            t.leavesAll(x, () -> x.fine(0), () -> x.fine(1), () -> x.fine(7), () -> x.fine(-1));
        });
    }
}
