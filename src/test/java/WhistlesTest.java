import java.util.NoSuchElementException;

/** Promises 12 to 24: whistles and hours. */
public final class WhistlesTest {
    private static final Class<IndexOutOfBoundsException> NO_INDEX = IndexOutOfBoundsException.class;
    private static final Class<IllegalArgumentException> BAD = IllegalArgumentException.class;
    private static final Class<UnsupportedOperationException> REFUSED = UnsupportedOperationException.class;
    private static final Class<NoSuchElementException> NONE = NoSuchElementException.class;
    private static final int[] NO_LINES = {-1, 7, Integer.MIN_VALUE, Integer.MAX_VALUE};
    private static final Check check = new Check();

    public static void main(String[] args) {
        promise12Whistle();
        promise13Lie();
        promise14Expose();
        promise15Mute();
        promise16Fine();
        promise17Hour();
        promise17Echoes();
        promise17OrderOfEchoes();
        promise17MostEchoes();
        promise18Way();
        promise19Heard();
        promise20Ways();
        promise21Reading();
        promise22Soonest();
        promise23Ranked();
        promise24IsRight();
        check.end("WhistlesTest");
    }

    private static void promise12Whistle() {
        WhistleJunction x = new WhistleJunction();
        check.fails("12: no sign", REFUSED, () -> x.whistle(0));
        check.due("12: reason 2", "2:0", () -> Check.refusal(x));
        Check.sign(x, 0, "llls");
        x.hour();
        check.due("12: its steam then", 5, () -> x.whistle(0));
        check.fails("12: twice", REFUSED, () -> x.whistle(0));
        check.due("12: reason 5", "5:1", () -> Check.refusal(x));
        x.mute(0, 2);
        check.fails("12: muted", REFUSED, () -> x.whistle(0));
        check.due("12: reason 4 is ahead of 5", "4:2", () -> Check.refusal(x));
        x.unsign(0);
        check.fails("12: no sign and muted", REFUSED, () -> x.whistle(0));
        check.due("12: reason 2 is ahead of 4", "2:0", () -> Check.refusal(x));
        Check.sign(x, 0, "lllll");
        x.fine(0);
        check.fails("12: twice and too little steam", REFUSED, () -> x.whistle(0));
        check.due("12: reason 5 is ahead of 6", "5:1", () -> Check.refusal(x));
        x.hour();
        check.fails("12: too little steam", REFUSED, () -> x.whistle(0));
        check.due("12: reason 6", "6:3", () -> Check.refusal(x));
        Check.sign(x, 0, "lllsl");
        x.hour();
        check.due("12: all the steam", 0, () -> x.whistle(0));
        check.due("12: whistles so far", 2, () -> x.account(6));
        Check.sign(x, 0, "lss");
        x.mute(5, 1);
        Check.sign(x, 5, "s");
        check.fails("12: muted for one hour", REFUSED, () -> x.whistle(5));
        check.due("12: reason 4 for one hour", "4:1", () -> Check.refusal(x));
        x.hour();
        Check.sign(x, 0, "ls");
        check.fails("12: one too little", REFUSED, () -> x.whistle(0));
        check.due("12: reason 6 for one", "6:1", () -> Check.refusal(x));
        for (int line : NO_LINES) {
            check.fails("12: line " + line, NO_INDEX, () -> x.whistle(line));
        }
    }

    private static void promise13Lie() {
        WhistleJunction x = new WhistleJunction();
        Check.sign(x, 1, "ll");
        check.fails("13: no sign to lie with", REFUSED, () -> x.lie(1, 2));
        check.due("13: reason 2", "2:1", () -> Check.refusal(x));
        check.due("13: without a sign, twice the steam", 2, () -> x.lie(0, 1));
        check.due("13: its lies", 1, () -> x.lineOf(0, 7));
        check.due("13: no lie of the other", 0, () -> x.lineOf(1, 9));
        check.fails("13: twice", REFUSED, () -> x.lie(0, 1));
        check.due("13: reason 5", "5:0", () -> Check.refusal(x));
        x.expose(0);
        check.fails("13: muted", REFUSED, () -> x.lie(0, 1));
        check.due("13: reason 4", "4:3", () -> Check.refusal(x));
        Check.sign(x, 1, "lllsss");
        check.fails("13: too little steam", REFUSED, () -> x.lie(3, 1));
        check.due("13: reason 6", "6:8", () -> Check.refusal(x));
        Check.sign(x, 1, "lls");
        check.due("13: just enough", 0, () -> x.lie(3, 1));
        check.due("13: whistles", 2, () -> x.account(6));
        check.due("13: lies", 2, () -> x.account(7));
        Check.sign(x, 2, "s");
        check.fails("13: twice, to lie after a lie", REFUSED, () -> x.lie(3, 2));
        check.fails("13: one line", BAD, () -> x.lie(1, 1));
        for (int line : NO_LINES) {
            check.fails("13: line " + line, NO_INDEX, () -> x.lie(line, 1));
            check.fails("13: as " + line, NO_INDEX, () -> x.lie(1, line));
            check.fails("13: both " + line, NO_INDEX, () -> x.lie(line, line));
        }
    }

    private static void promise14Expose() {
        WhistleJunction x = new WhistleJunction();
        Check.sign(x, 0, "ls");
        Check.sign(x, 1, "s");
        x.platform(2, 1, 4);
        x.whistle(0);
        check.fails("14: a whistle is no lie", REFUSED, () -> x.expose(0));
        check.due("14: reason 7", "7:1", () -> Check.refusal(x));
        x.lie(2, 1);
        x.mute(2, 9);
        check.due("14: 3 hours more", 12, () -> x.expose(2));
        check.fails("14: exposed already", REFUSED, () -> x.expose(2));
        check.due("14: reason 7 again", "7:1", () -> Check.refusal(x));
        check.due("14: heard no more", 1, () -> x.account(3));
        check.due("14: the letters stay", "lss", () -> Check.written(x, x.strip()));
        check.due("14: letters", 3, () -> x.account(4));
        check.due("14: exposed", 1, () -> x.account(8));
        check.due("14: of the line", 1, () -> x.lineOf(2, 8));
        check.due("14: it whistled", 1, () -> x.lineOf(2, 9));
        check.due("14: the echo is to come", 1, () -> x.account(5));
        x.lie(3, 1);
        x.hour();
        check.due("14: the echo of an exposed lie", 2, () -> x.heard(0, 1));
        check.fails("14: an hour too late", REFUSED, () -> x.expose(3));
        check.fails("14: an echo is no lie", REFUSED, () -> x.expose(2));
        check.due("14: reason 7 with the echo", "7:1", () -> Check.refusal(x));
        x.lie(4, 1);
        check.due("14: muted for 3 hours", 3, () -> x.expose(4));
        for (int line : NO_LINES) {
            check.fails("14: line " + line, NO_INDEX, () -> x.expose(line));
        }
    }

    private static void promise15Mute() {
        WhistleJunction x = new WhistleJunction();
        check.due("15: one", 1, () -> x.mute(3, 1));
        check.due("15: two", 2, () -> x.mute(0, 9));
        check.fails("15: muted", REFUSED, () -> x.mute(0, 2));
        check.due("15: reason 4", "4:9", () -> Check.refusal(x));
        x.hour();
        check.due("15: an hour less", 8, () -> x.lineOf(0, 5));
        check.due("15: over", 0, () -> x.lineOf(3, 5));
        check.due("15: no steam for the muted", 10, () -> x.lineOf(3, 3));
        check.due("15: again", 2, () -> x.mute(3, 2));
        Check.sign(x, 6, "s");
        x.whistle(6);
        x.mute(6, 1);
        check.due("15: heard all the same", 6, () -> x.way());
        check.due("15: and passes", 6, () -> x.hour());
        for (int hours : new int[] {-1, 0, 10, Integer.MIN_VALUE, Integer.MAX_VALUE}) {
            check.fails("15: hours " + hours, BAD, () -> x.mute(5, hours));
        }
        for (int line : NO_LINES) {
            check.fails("15: line " + line, NO_INDEX, () -> x.mute(line, 0));
        }
    }

    private static void promise16Fine() {
        WhistleJunction x = new WhistleJunction();
        check.fails("16: not muted", REFUSED, () -> x.fine(2));
        check.due("16: reason 8", "8:10", () -> Check.refusal(x));
        x.mute(2, 6);
        check.fails("16: too few coins", REFUSED, () -> x.fine(2));
        check.due("16: reason 9", "9:2", () -> Check.refusal(x));
        x.hour();
        check.due("16: all the coins", 0, () -> x.fine(2));
        check.due("16: muted no more", 0, () -> x.lineOf(2, 5));
        check.due("16: paid", 10, () -> x.account(13));
        check.due("16: coins of all", 60, () -> x.account(12));
        x.mute(4, 2);
        check.due("16: 2 coins an hour", 6, () -> x.fine(4));
        check.due("16: paid in all", 14, () -> x.account(13));
        check.fails("16: not muted again", REFUSED, () -> x.fine(4));
        check.due("16: reason 8 again", "8:6", () -> Check.refusal(x));
        Check.sign(x, 5, "s");
        x.whistle(5);
        x.hour();
        x.mute(5, 7);
        check.fails("16: one coin too few", REFUSED, () -> x.fine(5));
        check.due("16: reason 9 for one", "9:1", () -> Check.refusal(x));
        for (int line : NO_LINES) {
            check.fails("16: line " + line, NO_INDEX, () -> x.fine(line));
        }
    }

    private static void promise17Hour() {
        WhistleJunction x = new WhistleJunction();
        check.due("17: nothing is heard", -1, () -> x.hour());
        check.due("17: the hour", 1, () -> x.account(0));
        check.due("17: steam", 84, () -> x.account(11));
        Check.sign(x, 0, "s");
        Check.sign(x, 1, "l");
        x.priority(1, 3);
        x.whistle(0);
        x.lie(2, 1);
        x.whistle(1);
        check.due("17: the first that tells of the highest", 2, () -> x.hour());
        check.due("17: it passed", 1, () -> x.lineOf(2, 6));
        check.due("17: 3 coins", 13, () -> x.lineOf(2, 4));
        check.due("17: no other passed", 1, () -> x.account(9));
        check.due("17: the strip is empty", 0, () -> x.account(4));
        x.platform(0, 1, 2);
        x.whistle(1);
        x.lie(3, 1);
        x.expose(3);
        check.due("17: the whistle", 1, () -> x.hour());
        check.due("17: the echo", -2, () -> x.hour());
        check.due("17: to echoes", 1, () -> x.account(10));
        check.due("17: to whistles", 2, () -> x.account(9));
        check.due("17: nobody got coins", 76, () -> x.account(12));
        for (int i = 0; i < 6; i++) {
            x.hour();
        }
        check.due("17: steam up to 20", 20, () -> x.lineOf(6, 3));
        x.mute(6, 2);
        Check.sign(x, 6, "lll");
        x.unsign(0);
        x.priority(0, 9);
        x.fine(6);
        x.whistle(6);
        x.priority(6, 9);
        x.mute(6, 1);
        check.due("17: priorities are asked as it ends", 6, () -> x.hour());
        check.due("17: muted lines get none", 14, () -> x.lineOf(6, 3));
        check.due("17: a mute becomes less after that", 0, () -> x.lineOf(6, 5));
        x.hour();
        check.due("17: steam again", 16, () -> x.lineOf(6, 3));
    }

    private static void promise17Echoes() {
        WhistleJunction x = new WhistleJunction();
        Check.sign(x, 0, "ls");
        x.platform(0, 2, 1);
        x.platform(1, 0, 127);
        x.platform(2, 5, 2);
        x.whistle(0);
        x.lie(1, 0);
        x.lie(2, 0);
        check.due("17: the set asks who whistled", 2, () -> x.account(5));
        x.platform(0, 0, 0);
        Check.sign(x, 0, "sss");
        x.hour();
        check.due("17: not yet", 0, () -> x.account(3));
        x.hour();
        check.due("17: two hours later", 1, () -> x.account(3));
        check.due("17: the platform", 0, () -> x.heard(0, 2));
        check.due("17: the word of old", "ls", () -> Check.written(x, x.strip()));
        x.whistle(0);
        check.due("17: echoes are ahead of whistles", "lssss", () -> Check.written(x, x.strip()));
        check.due("17: to come", 1, () -> x.account(5));
        x.hour();
        x.hour();
        x.hour();
        check.due("17: five hours later", 2, () -> x.heard(0, 2));
        check.due("17: it tells of", 0, () -> x.heard(0, 0));
        check.due("17: whistled by", 1, () -> x.heard(0, 1));
        check.due("17: none to come", 0, () -> x.account(5));
        x.hour();
        check.due("17: heard once", 0, () -> x.account(3));
    }

    private static void promise17OrderOfEchoes() {
        WhistleJunction x = new WhistleJunction();
        Check.sign(x, 0, "s");
        Check.sign(x, 1, "l");
        Check.sign(x, 2, "ss");
        x.platform(3, 2, 3);
        x.platform(0, 2, 2);
        x.whistle(1);
        x.whistle(0);
        x.hour();
        x.platform(1, 1, 4);
        x.platform(2, 1, 4);
        x.whistle(2);
        x.hour();
        int[] whistlers = {1, 1, 0, 2, 2};
        int[] platforms = {0, 3, 3, 1, 2};
        for (int i = 0; i < whistlers.length; i++) {
            int place = i;
            check.due("17: whistler at " + i, whistlers[i], () -> x.heard(place, 1));
            check.due("17: platform at " + i, platforms[i], () -> x.heard(place, 2));
        }
        check.due("17: all", 5, () -> x.account(3));
        check.due("17: the strip", "llsssss", () -> Check.written(x, x.strip()));
        check.due("17: the first echo of the highest", -2, () -> x.hour());
    }

    /** The most that can sound in one hour: 140 echoes of five hours, and a whistle of each line. */
    private static void promise17MostEchoes() {
        WhistleJunction x = new WhistleJunction();
        String[] signs = {"sssss", "lsss", "slss", "ssls", "sssl", "lls", "lsl"};
        for (int line = 0; line < 7; line++) {
            Check.sign(x, line, signs[line]);
        }
        for (int hour = 0; hour < 5; hour++) {
            x.hour();
        }
        for (int delay = 5; delay > 0; delay--) {
            for (int platform = 0; platform < 4; platform++) {
                x.platform(platform, delay, 127);
            }
            for (int line = 0; line < 7; line++) {
                x.whistle(line);
            }
            int toCome = 28 * (6 - delay);
            check.due("17: to come with delay " + delay, toCome, () -> x.account(5));
            x.hour();
        }
        check.due("17: 140 echoes", 140, () -> x.account(3));
        for (int line = 0; line < 7; line++) {
            x.whistle(line);
        }
        check.due("17: and seven whistles", 147, () -> x.account(3));
        check.due("17: the last of them", 6, () -> x.heard(146, 1));
        check.due("17: is a whistle", -1, () -> x.heard(146, 2));
        check.due("17: of each platform", 35, () -> x.platformOf(3, 2));
        check.due("17: all letters", 21 * 27, () -> x.account(4));
        check.due("17: all letters are written", 21 * 27, () -> x.strip());
        check.due("17: the last letter", 'l', () -> x.character(21 * 27 - 1));
        check.due("17: they can be read", 1, () -> Math.min(1, x.ways(false)));
        check.due("17: right", true, () -> x.isRight());
        check.due("17: 28 more to come", 28, () -> x.account(5));
    }

    private static void promise18Way() {
        WhistleJunction x = new WhistleJunction();
        check.due("18: nothing", -1, () -> x.way());
        Check.sign(x, 3, "s");
        Check.sign(x, 4, "l");
        x.platform(0, 1, 16);
        x.whistle(3);
        x.whistle(4);
        check.due("18: the first of several", 3, () -> x.way());
        x.priority(4, 1);
        check.due("18: the highest", 4, () -> x.way());
        x.lie(5, 4);
        check.due("18: still the first", 4, () -> x.way());
        x.priority(4, 0);
        x.priority(0, 9);
        check.due("18: a line that is not told does not count", 3, () -> x.way());
        x.hour();
        check.due("18: an echo", -2, () -> x.way());
        x.whistle(3);
        check.due("18: the echo is ahead", -2, () -> x.way());
        x.priority(3, 1);
        check.due("18: the whistle is higher", 3, () -> x.way());
        check.due("18: it changes nothing", 3, () -> x.way());
        WhistleJunction y = new WhistleJunction();
        Check.sign(y, 0, "s");
        y.lie(1, 0);
        check.due("18: the liar", 1, () -> y.way());
        y.expose(1);
        check.due("18: the exposed one is heard no more", -1, () -> y.way());
        check.due("18: and does not pass", -1, () -> y.hour());
    }

    private static void promise19Heard() {
        WhistleJunction x = new WhistleJunction();
        check.fails("19: nothing", NONE, () -> x.heard(0, 0));
        Check.sign(x, 0, "sll");
        Check.sign(x, 5, "l");
        x.platform(3, 1, 64);
        x.lie(6, 0);
        x.whistle(5);
        dueHeard(x, 0, new int[] {0, 6, -1, 3, 6});
        dueHeard(x, 1, new int[] {5, 5, -1, 1, 1});
        Check.sign(x, 0, "s");
        dueHeard(x, 0, new int[] {0, 6, -1, 3, 6});
        x.expose(6);
        dueHeard(x, 0, new int[] {5, 5, -1, 1, 1});
        check.fails("19: behind the last", NONE, () -> x.heard(1, 0));
        check.fails("19: place ahead of what", NONE, () -> x.heard(1, 5));
        check.fails("19: below 0", NONE, () -> x.heard(-1, 0));
        check.fails("19: lowest", NONE, () -> x.heard(Integer.MIN_VALUE, 0));
        check.fails("19: highest", NONE, () -> x.heard(Integer.MAX_VALUE, 0));
        for (int what : new int[] {-1, 5, Integer.MIN_VALUE, Integer.MAX_VALUE}) {
            check.fails("19: what " + what, BAD, () -> x.heard(0, what));
        }
        x.hour();
        dueHeard(x, 0, new int[] {0, 6, 3, 3, 6});
    }

    private static void dueHeard(WhistleJunction x, int place, int[] due) {
        for (int i = 0; i < due.length; i++) {
            int what = i;
            check.due("19: at " + place + ", " + what, due[what], () -> x.heard(place, what));
        }
    }

    private static void promise20Ways() {
        WhistleJunction x = new WhistleJunction();
        Check.sign(x, 0, "s");
        Check.sign(x, 1, "ss");
        Check.sign(x, 2, "sss");
        dueWays(x, 1, "empty");
        x.whistle(2);
        dueWays(x, 4, "sss");
        x.whistle(1);
        x.whistle(0);
        dueWays(x, 24, "ssssss");
        x.unsign(0);
        dueWays(x, 2, "without s");
        x.unsign(1);
        dueWays(x, 1, "without ss");
        x.unsign(2);
        dueWays(x, 0, "without signs");
        Check.sign(x, 6, "ssss");
        dueWays(x, 0, "no way");
        Check.sign(x, 3, "l");
        x.whistle(3);
        Check.sign(x, 0, "sssl");
        Check.sign(x, 2, "sss");
        dueWays(x, 2, "of signs told later");
        WhistleJunction y = new WhistleJunction();
        Check.sign(y, 0, "s");
        Check.sign(y, 1, "ss");
        Check.sign(y, 2, "sss");
        for (int platform = 0; platform < 3; platform++) {
            y.platform(platform, 1, 7);
        }
        y.whistle(1);
        y.whistle(2);
        y.hour();
        dueWays(y, 5768, "fifteen letters");
        y.whistle(0);
        dueWays(y, 10609, "sixteen letters", 9999);
        y.unsign(2);
        dueWays(y, 1597, "sixteen letters of two signs");
    }

    private static void dueWays(WhistleJunction x, int due, String what) {
        dueWays(x, due, what, due);
    }

    private static void dueWays(WhistleJunction x, int all, String what, int due) {
        check.due("20: " + what + " of " + all, due, () -> x.ways(false));
        check.due("20: again " + what + " of " + all, due, () -> x.ways(true));
    }

    private static void promise21Reading() {
        WhistleJunction x = new WhistleJunction();
        check.fails("21: empty", NONE, () -> x.reading(0));
        Check.sign(x, 0, "ls");
        Check.sign(x, 1, "l");
        Check.sign(x, 2, "sl");
        Check.sign(x, 3, "lsl");
        x.whistle(3);
        dueReading(x, new int[] {0, 1});
        x.whistle(2);
        dueReading(x, new int[] {0, 0, 1});
        x.unsign(1);
        dueReading(x, new int[] {0, 3});
        check.fails("21: below 0", NONE, () -> x.reading(-1));
        check.fails("21: lowest", NONE, () -> x.reading(Integer.MIN_VALUE));
        check.fails("21: highest", NONE, () -> x.reading(Integer.MAX_VALUE));
        x.unsign(3);
        check.fails("21: not to be read", NONE, () -> x.reading(0));
        WhistleJunction y = new WhistleJunction();
        Check.sign(y, 6, "lss");
        y.whistle(6);
        dueReading(y, new int[] {6});
        Check.sign(y, 0, "l");
        Check.sign(y, 1, "ls");
        dueReading(y, new int[] {6});
        Check.sign(y, 5, "s");
        dueReading(y, new int[] {0, 5, 5});
        Check.sign(y, 0, "sl");
        dueReading(y, new int[] {1, 5});
        WhistleJunction z = new WhistleJunction();
        Check.sign(z, 0, "lsslll");
        Check.sign(z, 1, "slssss");
        Check.sign(z, 2, "slsssl");
        Check.sign(z, 3, "s");
        z.hour();
        z.whistle(3);
        z.whistle(2);
        z.whistle(0);
        dueReading(z, new int[] {3, 2, 0});
    }

    private static void dueReading(WhistleJunction x, int[] due) {
        for (int i = 0; i < due.length; i++) {
            int place = i;
            check.due("21: of " + due.length + " at " + i, due[i], () -> x.reading(place));
        }
        check.fails("21: behind " + due.length, NONE, () -> x.reading(due.length));
    }

    private static void promise22Soonest() {
        WhistleJunction x = new WhistleJunction();
        check.fails("22: no sign", NONE, () -> x.soonest(0));
        Check.sign(x, 0, "lllll");
        check.due("22: now", 0, () -> x.soonest(0));
        Check.sign(x, 0, "llllls");
        check.due("22: steam of an hour", 1, () -> x.soonest(0));
        Check.sign(x, 0, "llllll");
        x.mute(0, 3);
        check.due("22: muted hours give no steam", 4, () -> x.soonest(0));
        Check.sign(x, 1, "s");
        x.whistle(1);
        check.due("22: whistled in this hour", 1, () -> x.soonest(1));
        x.mute(1, 9);
        check.due("22: and muted", 9, () -> x.soonest(1));
        Check.sign(x, 2, "lllll");
        x.whistle(2);
        check.due("22: without steam", 5, () -> x.soonest(2));
        Check.sign(x, 3, "ssss");
        x.lie(4, 3);
        x.unsign(0);
        Check.sign(x, 4, "llllll");
        x.mute(4, 9);
        x.expose(4);
        check.due("22: the longest", 17, () -> x.soonest(4));
        for (int hours = 16; hours >= 0; hours--) {
            int due = hours;
            x.hour();
            check.due("22: " + hours + " before", due, () -> x.soonest(4));
            check.due("22: whether it whistles", due == 0 ? 0 : "throws." + REFUSED.getName(), () -> x.whistle(4));
        }
        for (int line : NO_LINES) {
            check.fails("22: line " + line, NO_INDEX, () -> x.soonest(line));
        }
    }

    private static void promise23Ranked() {
        WhistleJunction x = new WhistleJunction();
        for (int i = 0; i < 21; i++) {
            int measure = i / 7;
            int place = i % 7;
            check.due("23: all alike, " + i, place, () -> x.ranked(measure, place));
        }
        x.priority(4, 9);
        x.priority(2, 3);
        x.priority(6, 3);
        dueRanked(x, 0, new int[] {4, 2, 6, 0, 1, 3, 5});
        Check.sign(x, 1, "s");
        Check.sign(x, 5, "l");
        x.whistle(5);
        x.whistle(1);
        dueRanked(x, 1, new int[] {0, 2, 3, 4, 6, 1, 5});
        x.hour();
        dueRanked(x, 2, new int[] {5, 0, 1, 2, 3, 4, 6});
        x.whistle(1);
        x.hour();
        x.whistle(1);
        x.hour();
        dueRanked(x, 2, new int[] {1, 5, 0, 2, 3, 4, 6});
        for (int measure : new int[] {-1, 3, Integer.MIN_VALUE, Integer.MAX_VALUE}) {
            check.fails("23: measure " + measure, BAD, () -> x.ranked(measure, 7));
        }
        for (int place : NO_LINES) {
            check.fails("23: place " + place, NONE, () -> x.ranked(0, place));
        }
    }

    private static void dueRanked(WhistleJunction x, int measure, int[] due) {
        for (int i = 0; i < due.length; i++) {
            int place = i;
            check.due("23: by " + measure + " at " + i, due[i], () -> x.ranked(measure, place));
        }
    }

    /** Its answer is no only if another answer is wrong, so a break of it shows in runs where all is right. */
    private static void promise24IsRight() {
        WhistleJunction x = new WhistleJunction();
        String[] signs = {"s", "ss", "l", "lsl", "sl", "lsls", "slssls"};
        for (int line = 0; line < signs.length; line++) {
            Check.sign(x, line, signs[line]);
            Check.answerOf(() -> x.whistle(0));
            check.due("24: with signs up to " + line, true, () -> x.isRight());
        }
        for (int line = 1; line < 6; line++) {
            x.whistle(line);
            check.due("24: with whistles up to " + line, true, () -> x.isRight());
        }
        check.due("24: several ways", true, () -> x.ways(false) > 1);
        for (int line = 6; line >= 0; line--) {
            x.unsign(line);
            check.due("24: with signs down to " + line, true, () -> x.isRight());
        }
        Check.sign(x, 0, "ls");
        Check.sign(x, 1, "ll");
        x.hour();
        x.whistle(0);
        x.whistle(1);
        check.due("24: one way with clear signs", 1, () -> x.ways(false));
        check.due("24: clear", true, () -> x.isRight());
    }
}
