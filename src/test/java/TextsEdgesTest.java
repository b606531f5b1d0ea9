/** Promises 25 to 31: a test for each sentence that names a boundary case. */
public final class TextsEdgesTest {
    private static final Sentences t = new Sentences();

    public static void main(String[] args) {
        promise25Text();
        promise26Strip();
        promise27Character();
        promise28Refusal();
        promise28EachReason();
        promise29Account();
        promise29Counts();
        promise30MeanLength();
        promise31LieShare();
        t.end("TextsEdgesTest");
    }

    private static void dueText(WhistleJunction x, int line, String due) {
        t.due(due.length(), () -> x.text(line));
        t.due(due, () -> Check.line(x));
    }

    private static void dueStrip(WhistleJunction x, String due) {
        t.due(due.length(), () -> x.strip());
        t.due(due, () -> Check.line(x));
    }

    private static void promise25Text() {
        t.test("25: no such line", x -> {
            for (int line : Sentences.NO_LINES) {
                t.fails(Sentences.NO_INDEX, () -> x.text(line));
            }
        });
        t.test("25: without a sign and not muted: the first and the last line", x -> {
            dueText(x, 0, "0/0*10");
            dueText(x, 6, "6/0*10");
        });
        t.test("25: the shortest", x -> {
            Sentences.tell(x, "lllll");
            x.whistle(0);
            x.unsign(0);
            dueText(x, 0, "0/0*0");
        });
        t.test("25: the longest", x -> {
            Sentences.tell(x, "s", "", "", "", "", "", "llllll");
            Sentences.hours(x, 5);
            x.priority(6, 9);
            x.lie(6, 0);
            x.mute(6, 9);
            x.expose(6);
            dueText(x, 6, "6:llllll/9*18!12");
        });
        t.test("25: if it has a sign: of one letter and of six", x -> {
            Sentences.tell(x, "s", "l", "slslsl", "lsllss");
            dueText(x, 0, "0:s/0*10");
            dueText(x, 1, "1:l/0*10");
            dueText(x, 2, "2:slslsl/0*10");
            dueText(x, 3, "3:lsllss/0*10");
        });
        t.test("25: if it is muted: for one hour and for ten", x -> {
            Sentences.tell(x, "s");
            x.mute(0, 1);
            dueText(x, 0, "0:s/0*10!1");
            x.lie(1, 0);
            x.mute(1, 7);
            x.expose(1);
            dueText(x, 1, "1/0*8!10");
            x.hour();
            dueText(x, 0, "0:s/0*10");
            dueText(x, 1, "1/0*8!9");
        });
        t.test("25: its steam: one digit and two", x -> {
            Sentences.tell(x, "s");
            x.whistle(0);
            dueText(x, 0, "0:s/0*9");
            Sentences.hours(x, 6);
            dueText(x, 0, "0:s/0*20");
        });
        t.test("25: its priority, from 0 to 9", x -> {
            x.priority(4, 9);
            dueText(x, 4, "4/9*10");
            x.priority(4, 0);
            dueText(x, 4, "4/0*10");
        });
        t.test("25: in place of the line of text before, a longer one", x -> {
            Sentences.tell(x, "ssssss");
            x.text(0);
            dueText(x, 1, "1/0*10");
        });
        t.test("25: a call that throws leaves the line of text before", x -> {
            x.text(3);
            t.leavesAll(x, () -> x.text(7), () -> x.text(-1));
            t.due("3/0*10", () -> Check.line(x));
        });
    }

    private static void promise26Strip() {
        t.test("26: an empty strip, in place of the line of text before", x -> {
            x.text(0);
            dueStrip(x, "");
        });
        t.test("26: one letter", x -> {
            Sentences.tell(x, "", "", "", "", "", "", "l");
            x.whistle(6);
            dueStrip(x, "l");
        });
        t.test("26: in the order in which it is heard, not in that of the lines", x -> {
            Sentences.tell(x, "s", "ll", "sl");
            x.whistle(2);
            x.lie(6, 1);
            x.whistle(0);
            dueStrip(x, "sllls");
        });
        t.test("26: lies that were exposed and echoes included", x -> {
            Sentences.tell(x, "s", "ll");
            x.platform(0, 1, 1);
            x.whistle(0);
            x.hour();
            x.lie(2, 1);
            x.expose(2);
            dueStrip(x, "sll");
        });
        t.test("26: empty again as an hour begins", x -> {
            Sentences.tell(x, "s");
            x.whistle(0);
            x.hour();
            dueStrip(x, "");
        });
        t.test("26: the longest strip that can be heard", x -> {
            Sentences.soundMost(x);
            t.due(147, () -> x.account(3));
            t.due(798, () -> x.account(4));
            t.due(798, () -> x.strip());
            t.due('s', () -> x.character(797));
            t.fails(Sentences.NO_INDEX, () -> x.character(798));
        });
        t.test("26: it is written anew alone by a call", x -> {
            Sentences.tell(x, "s");
            x.strip();
            x.whistle(0);
            t.due("", () -> Check.line(x));
            dueStrip(x, "s");
        });
    }

    private static void promise27Character() {
        t.test("27: the line of text is empty at first", x -> {
            t.fails(Sentences.NO_INDEX, () -> x.character(0));
            t.fails(Sentences.NO_INDEX, () -> x.character(-1));
        });
        t.test("27: the index, from 0 to the last", x -> {
            x.text(6);
            t.due('6', () -> x.character(0));
            t.due('0', () -> x.character(5));
        });
        t.test("27: there is no such index", x -> {
            x.text(6);
            for (int index : new int[] {-1, 6, 7, Integer.MIN_VALUE, Integer.MAX_VALUE}) {
                t.fails(Sentences.NO_INDEX, () -> x.character(index));
            }
        });
        t.test("27: no index of an empty strip that was written", x -> {
            x.text(6);
            x.strip();
            t.fails(Sentences.NO_INDEX, () -> x.character(0));
        });
        t.test("27: no index behind a shorter line that was written after a longer one", x -> {
            Sentences.tell(x, "ssssss");
            x.text(0);
            x.text(1);
            t.due('0', () -> x.character(5));
            t.fails(Sentences.NO_INDEX, () -> x.character(6));
        });
        t.test("27: the line of text is not undone", x -> {
            x.priority(0, 1);
            x.text(0);
            x.undo();
            t.due("0/1*10", () -> Check.line(x));
        });
        t.test("27: the line of text is not saved", x -> {
            x.text(0);
            x.snapshot();
            x.text(1);
            x.restore();
            t.due("1/0*10", () -> Check.line(x));
        });
    }

    private static void promise28Refusal() {
        t.test("28: nothing was refused", x -> {
            t.fails(Sentences.NO_STATE, () -> x.refusal(false));
            t.fails(Sentences.NO_STATE, () -> x.refusal(true));
        });
        t.test("28: other exceptions are no refusals", x -> {
            Check.answerOf(() -> x.sign(0, 0, 0));
            Check.answerOf(() -> x.unsign(7));
            Check.answerOf(() -> x.priority(0, 10));
            Check.answerOf(() -> x.platform(0, 6, 0));
            Check.answerOf(() -> x.lie(1, 1));
            Check.answerOf(() -> x.mute(0, 0));
            Check.answerOf(() -> x.undo());
            Check.answerOf(() -> x.restore());
            Check.answerOf(() -> x.meanLength());
            Check.answerOf(() -> x.soonest(0));
            Check.answerOf(() -> x.reading(0));
            Check.read(x, "h;");
            Check.read(x, "w7");
            t.fails(Sentences.NO_STATE, () -> x.refusal(false));
            t.fails(Sentences.NO_STATE, () -> x.refusal(true));
        });
        t.test("28: the latest refusal, though calls succeeded after it", x -> {
            Check.answerOf(() -> x.fine(0));
            x.hour();
            x.mute(0, 1);
            t.due("8:10", () -> Check.refusal(x));
            Check.answerOf(() -> x.mute(0, 1));
            t.due("4:1", () -> Check.refusal(x));
        });
        t.test("28: a detail of 0", x -> {
            Check.answerOf(() -> x.priority(0, 0));
            t.due(3, () -> x.refusal(false));
            t.due(0, () -> x.refusal(true));
        });
        t.test("28: to ask it does not take it away", x -> {
            Check.answerOf(() -> x.expose(0));
            x.refusal(false);
            t.due("7:0", () -> Check.refusal(x));
            t.due("7:0", () -> Check.refusal(x));
        });
        t.test("28: the refusal is not undone", x -> {
            x.hour();
            Check.answerOf(() -> x.fine(0));
            x.undo();
            t.due("8:10", () -> Check.refusal(x));
        });
        t.test("28: the refusal is not saved", x -> {
            Check.answerOf(() -> x.fine(0));
            x.snapshot();
            Check.answerOf(() -> x.priority(0, 0));
            x.restore();
            t.due("3:0", () -> Check.refusal(x));
        });
    }

    private static void promise28EachReason() {
        t.test("28: the reasons 1 to 9 with their details", x -> {
            Sentences.tell(x, "s", "l", "llllll");
            t.refused(x, 1, 1, () -> x.sign(0, 1, 1));
            t.refused(x, 2, 3, () -> x.unsign(3));
            x.priority(6, 7);
            t.refused(x, 3, 7, () -> x.priority(6, 7));
            x.mute(5, 8);
            t.refused(x, 4, 8, () -> x.mute(5, 1));
            x.hour();
            x.whistle(0);
            x.whistle(1);
            t.refused(x, 5, 1, () -> x.whistle(0));
            t.refused(x, 6, 12, () -> x.lie(3, 2));
            t.refused(x, 7, 2, () -> x.expose(0));
            t.refused(x, 8, 10, () -> x.fine(4));
            t.refused(x, 9, 4, () -> x.fine(5));
        });
    }

    private static void dueAccount(WhistleJunction x, int what, int due) {
        t.due(due, () -> x.account(what));
    }

    private static void promise29Account() {
        t.test("29: what is out of range", x -> {
            for (int what : new int[] {-1, 16, Integer.MIN_VALUE, Integer.MAX_VALUE}) {
                t.fails(Sentences.BAD, () -> x.account(what));
            }
        });
        t.test("29: 0 for the hour, the first and a later one", x -> {
            dueAccount(x, 0, 0);
            Sentences.hours(x, 100);
            dueAccount(x, 0, 100);
        });
        t.test("29: 1 for the lines with signs, from none to all", x -> {
            dueAccount(x, 1, 0);
            Sentences.tell(x, "s", "l", "ss", "ll", "sl", "ls", "sss");
            dueAccount(x, 1, 7);
            x.unsign(3);
            dueAccount(x, 1, 6);
        });
        t.test("29: 2 for the lines that are muted, from none to all", x -> {
            dueAccount(x, 2, 0);
            for (int line = 0; line < 7; line++) {
                x.mute(line, 1 + line);
            }
            dueAccount(x, 2, 7);
            x.hour();
            dueAccount(x, 2, 6);
            x.fine(1);
            dueAccount(x, 2, 5);
        });
        t.test("29: 3 for the things that are heard: whistles and echoes, not what was exposed", x -> {
            dueAccount(x, 3, 0);
            Sentences.tell(x, "s");
            x.platform(0, 1, 127);
            x.whistle(0);
            x.lie(1, 0);
            dueAccount(x, 3, 2);
            x.expose(1);
            dueAccount(x, 3, 1);
            x.hour();
            dueAccount(x, 3, 2);
            x.whistle(0);
            dueAccount(x, 3, 3);
        });
        t.test("29: 4 for the letters on the strip, those of exposed lies included", x -> {
            dueAccount(x, 4, 0);
            Sentences.tell(x, "sss");
            x.platform(0, 1, 127);
            x.lie(1, 0);
            x.expose(1);
            dueAccount(x, 4, 3);
            x.whistle(0);
            dueAccount(x, 4, 6);
            x.hour();
            dueAccount(x, 4, 6);
            x.hour();
            dueAccount(x, 4, 0);
        });
        t.test("29: 5 for the echoes to come", x -> {
            Sentences.tell(x, "s");
            x.platform(0, 1, 127);
            x.platform(3, 5, 127);
            dueAccount(x, 5, 0);
            x.whistle(0);
            dueAccount(x, 5, 2);
            x.hour();
            dueAccount(x, 5, 1);
            Sentences.hours(x, 3);
            dueAccount(x, 5, 1);
            x.hour();
            dueAccount(x, 5, 0);
        });
    }

    private static void promise29Counts() {
        t.test("29: 6 for the whistles so far, lies included, 7 for the lies so far, 8 for those exposed so far", x -> {
            dueAccount(x, 6, 0);
            dueAccount(x, 7, 0);
            dueAccount(x, 8, 0);
            Sentences.tell(x, "s");
            x.whistle(0);
            x.lie(1, 0);
            x.lie(2, 0);
            x.expose(2);
            x.hour();
            dueAccount(x, 6, 3);
            dueAccount(x, 7, 2);
            dueAccount(x, 8, 1);
        });
        t.test("29: 9 for the ways given to whistles so far, 10 for those given to echoes so far", x -> {
            dueAccount(x, 9, 0);
            dueAccount(x, 10, 0);
            Sentences.tell(x, "s");
            x.platform(0, 1, 1);
            x.platform(1, 2, 1);
            x.whistle(0);
            x.lie(1, 0);
            Sentences.hours(x, 4);
            dueAccount(x, 9, 1);
            dueAccount(x, 10, 2);
        });
        t.test("29: 11 for the steam of all lines", x -> {
            dueAccount(x, 11, 70);
            Sentences.tell(x, "lllll");
            x.whistle(0);
            dueAccount(x, 11, 60);
            Sentences.hours(x, 10);
            dueAccount(x, 11, 140);
        });
        t.test("29: 12 for the coins of all lines, 13 for the coins paid as fines so far", x -> {
            dueAccount(x, 12, 70);
            dueAccount(x, 13, 0);
            x.mute(0, 5);
            x.fine(0);
            x.mute(6, 1);
            x.fine(6);
            dueAccount(x, 12, 58);
            dueAccount(x, 13, 12);
            Sentences.tell(x, "s");
            x.whistle(0);
            x.hour();
            dueAccount(x, 12, 61);
            dueAccount(x, 13, 12);
        });
        t.test("29: 14 for the characters in the buffer, from none to 60", x -> {
            dueAccount(x, 14, 0);
            Check.append(x, "h".repeat(60));
            dueAccount(x, 14, 60);
            Check.answerOf(() -> x.read());
            dueAccount(x, 14, 0);
        });
        t.test("29: 15 for the changes that can be undone, from none to 8", x -> {
            dueAccount(x, 15, 0);
            Sentences.hours(x, 7);
            dueAccount(x, 15, 7);
            x.hour();
            dueAccount(x, 15, 8);
            x.hour();
            dueAccount(x, 15, 8);
            x.undo();
            dueAccount(x, 15, 7);
        });
    }

    private static void promise30MeanLength() {
        t.test("30: there are none, at first and after the last was taken away", x -> {
            t.fails(Sentences.NO_MEAN, () -> x.meanLength());
            x.sign(0, 1, 0);
            x.unsign(0);
            t.fails(Sentences.NO_MEAN, () -> x.meanLength());
        });
        t.test("30: one sign, the shortest and the longest", x -> {
            x.sign(6, 1, 0);
            t.due(1.0, () -> x.meanLength());
            x.sign(6, 6, 63);
            t.due(6.0, () -> x.meanLength());
        });
        t.test("30: both converted to double: it is not rounded down", x -> {
            Sentences.tell(x, "s", "ss");
            t.due(1.5, () -> x.meanLength());
            Sentences.tell(x, "", "", "ll");
            t.due(5.0 / 3.0, () -> x.meanLength());
        });
        t.test("30: the sum of all divided by their number, of all lines", x -> {
            Sentences.tell(x, "s", "l", "ss", "ll", "sl", "ls", "ssssss");
            t.due(16.0 / 7.0, () -> x.meanLength());
        });
    }

    private static void promise31LieShare() {
        t.test("31: there were no whistles", x -> {
            t.fails(Sentences.NO_MEAN, () -> x.lieShare());
            x.sign(0, 1, 0);
            x.hour();
            t.fails(Sentences.NO_MEAN, () -> x.lieShare());
        });
        t.test("31: no lies among the whistles", x -> {
            x.sign(0, 1, 0);
            x.whistle(0);
            t.due(0.0f, () -> x.lieShare());
        });
        t.test("31: lies alone", x -> {
            x.sign(0, 1, 0);
            x.lie(1, 0);
            t.due(1.0f, () -> x.lieShare());
        });
        t.test("31: both numbers converted to float: it is not rounded down", x -> {
            x.sign(0, 1, 0);
            x.lie(1, 0);
            x.whistle(0);
            t.due(0.5f, () -> x.lieShare());
            x.sign(2, 1, 1);
            x.whistle(2);
            t.due(1.0f / 3.0f, () -> x.lieShare());
        });
        t.test("31: so far: of earlier hours, those exposed included, echoes not", x -> {
            x.sign(0, 1, 0);
            x.platform(0, 1, 127);
            x.lie(1, 0);
            x.expose(1);
            Sentences.hours(x, 3);
            x.whistle(0);
            t.due(0.5f, () -> x.lieShare());
        });
        t.test("31: none again after clear and after undo", x -> {
            x.sign(0, 1, 0);
            x.whistle(0);
            x.undo();
            t.fails(Sentences.NO_MEAN, () -> x.lieShare());
            x.whistle(0);
            x.clear();
            t.fails(Sentences.NO_MEAN, () -> x.lieShare());
        });
    }
}
