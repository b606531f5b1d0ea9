/** Promises 17 to 24: a test for each sentence that names a boundary case. */
public final class HoursEdgesTest {
    private static final Sentences t = new Sentences();

    public static void main(String[] args) {
        promise17Hour();
        promise17WhoGetsTheWay();
        promise17SteamAndMutes();
        promise17Echoes();
        promise17OrderOfEchoes();
        promise18Way();
        promise19Heard();
        promise20Ways();
        promise20MostWays();
        promise21Reading();
        promise22Soonest();
        promise22NoSoonest();
        promise23Ranked();
        promise24IsRight();
        t.end("HoursEdgesTest");
    }

    private static void promise17Hour() {
        t.test("17: -1 if nothing is heard", x -> {
            t.due(-1, () -> x.hour());
            t.due(0, () -> x.account(9));
            t.due(0, () -> x.account(10));
            t.due(70, () -> x.account(12));
        });
        t.test("17: -1 if all that was heard was exposed", x -> {
            Sentences.tell(x, "s");
            x.lie(1, 0);
            x.expose(1);
            t.due(-1, () -> x.hour());
            t.dueOfLines(x, 6, 0, 0, 0, 0, 0, 0, 0);
        });
        t.test("17: -2 if the way is given to an echo; then nobody passes", x -> {
            Sentences.tell(x, "s");
            x.platform(0, 1, 1);
            x.whistle(0);
            x.hour();
            t.due(-2, () -> x.hour());
            t.due(1, () -> x.account(10));
            t.due(1, () -> x.account(9));
            t.due(1, () -> x.lineOf(0, 6));
            t.due(73, () -> x.account(12));
        });
        t.test("17: the line that whistled passes and gets 3 coins: the first and the last line", x -> {
            Sentences.tell(x, "s", "", "", "", "", "", "l");
            x.whistle(0);
            t.due(0, () -> x.hour());
            x.whistle(6);
            t.due(6, () -> x.hour());
            t.dueOfLines(x, 4, 13, 10, 10, 10, 10, 10, 13);
            t.dueOfLines(x, 6, 1, 0, 0, 0, 0, 0, 1);
            t.due(2, () -> x.account(9));
        });
        t.test("17: of a lie the line that whistled passes, not the line told of", x -> {
            Sentences.tell(x, "s");
            x.lie(6, 0);
            t.due(6, () -> x.hour());
            t.due(13, () -> x.lineOf(6, 4));
            t.due(10, () -> x.lineOf(0, 4));
        });
        t.test("17: the next hour begins; the strip is empty as an hour begins", x -> {
            Sentences.tell(x, "lls");
            x.whistle(0);
            x.hour();
            t.due(1, () -> x.account(0));
            t.due(0, () -> x.account(3));
            t.due(0, () -> x.account(4));
            t.due(0, () -> x.strip());
        });
        t.test("17: hours are numbered from 0 and have no last number", x -> {
            for (int hour = 0; hour < 200; hour++) {
                x.hour();
            }
            t.due(200, () -> x.account(0));
            t.due(140, () -> x.account(11));
        });
    }

    private static void promise17WhoGetsTheWay() {
        t.test("17: the highest priority: 9 ahead of 8, wherever it stands", x -> {
            Sentences.tell(x, "s", "l", "ss");
            x.priority(0, 8);
            x.priority(1, 9);
            x.priority(2, 8);
            x.whistle(0);
            x.whistle(1);
            x.whistle(2);
            t.due(1, () -> x.hour());
        });
        t.test("17: a priority of 0 is enough where there is no higher one", x -> {
            Sentences.tell(x, "s", "l");
            x.priority(1, 9);
            x.whistle(0);
            t.due(0, () -> x.hour());
        });
        t.test("17: of several the first one that is heard, not the lowest line", x -> {
            Sentences.tell(x, "s", "l", "ss");
            x.priority(0, 9);
            x.priority(2, 9);
            x.whistle(1);
            x.whistle(2);
            x.whistle(0);
            t.due(2, () -> x.hour());
        });
        t.test("17: of several the first one: an echo is heard ahead of all whistles", x -> {
            Sentences.tell(x, "s", "l");
            x.platform(0, 1, 1);
            x.whistle(0);
            x.hour();
            x.whistle(1);
            t.due(-2, () -> x.hour());
        });
        t.test("17: a whistle that tells of a higher line is ahead of an echo", x -> {
            Sentences.tell(x, "s", "l");
            x.platform(0, 1, 1);
            x.whistle(0);
            x.hour();
            x.priority(1, 1);
            x.whistle(1);
            t.due(1, () -> x.hour());
            t.due(0, () -> x.account(10));
        });
        t.test("17: the priority of the line that is told by it, not of the line that whistled", x -> {
            Sentences.tell(x, "s", "l");
            x.priority(5, 9);
            x.priority(1, 1);
            x.lie(5, 0);
            x.lie(6, 1);
            t.due(6, () -> x.hour());
        });
        t.test("17: an echo tells of the line that was told by the whistle", x -> {
            Sentences.tell(x, "s", "l");
            x.platform(0, 1, 32);
            x.lie(5, 0);
            x.hour();
            x.priority(5, 9);
            x.priority(1, 1);
            x.whistle(1);
            t.due(1, () -> x.hour());
        });
        t.test("17: priorities are asked as an hour ends", x -> {
            Sentences.tell(x, "s", "l");
            x.priority(0, 9);
            x.whistle(0);
            x.whistle(1);
            x.priority(0, 0);
            x.priority(1, 1);
            t.due(1, () -> x.hour());
        });
        t.test("17: an exposed lie with the highest priority does not get the way", x -> {
            Sentences.tell(x, "s", "l");
            x.priority(0, 9);
            x.lie(5, 0);
            x.whistle(1);
            x.expose(5);
            t.due(1, () -> x.hour());
        });
        t.test("17: a line that has no sign any more is told of all the same", x -> {
            Sentences.tell(x, "s", "l");
            x.priority(0, 9);
            x.whistle(0);
            x.whistle(1);
            x.unsign(0);
            t.due(0, () -> x.hour());
        });
    }

    private static void promise17SteamAndMutes() {
        t.test("17: each line that is not muted gets 2 steam", x -> {
            Sentences.tell(x, "lllll", "s");
            x.whistle(0);
            x.whistle(1);
            x.hour();
            t.dueOfLines(x, 3, 2, 11, 12, 12, 12, 12, 12);
        });
        t.test("17: up to 20: from 18, from 19 and from 20", x -> {
            Sentences.tell(x, "s");
            x.whistle(0);
            Sentences.hours(x, 4);
            t.dueOfLines(x, 3, 17, 18, 18, 18, 18, 18, 18);
            x.hour();
            t.dueOfLines(x, 3, 19, 20, 20, 20, 20, 20, 20);
            x.hour();
            t.dueOfLines(x, 3, 20, 20, 20, 20, 20, 20, 20);
        });
        t.test("17: then each mute becomes an hour less: muted for one hour, no steam at its end", x -> {
            x.mute(0, 1);
            x.mute(6, 2);
            x.hour();
            t.dueOfLines(x, 3, 10, 12, 12, 12, 12, 12, 10);
            t.dueOfLines(x, 5, 0, 0, 0, 0, 0, 0, 1);
            x.hour();
            t.dueOfLines(x, 3, 12, 14, 14, 14, 14, 14, 10);
            t.dueOfLines(x, 5, 0, 0, 0, 0, 0, 0, 0);
            x.hour();
            t.dueOfLines(x, 3, 14, 16, 16, 16, 16, 16, 12);
            t.dueOfLines(x, 5, 0, 0, 0, 0, 0, 0, 0);
        });
        t.test("17: a muted line that passes gets its coins", x -> {
            Sentences.tell(x, "s");
            x.whistle(0);
            x.mute(0, 1);
            x.hour();
            t.due(13, () -> x.lineOf(0, 4));
            t.due(9, () -> x.lineOf(0, 3));
        });
    }

    private static void promise17Echoes() {
        t.test("17: a platform with a delay echoes the word as many hours later, from 1 to 5", x -> {
            for (int delay = 1; delay <= 5; delay++) {
                WhistleJunction y = new WhistleJunction();
                Sentences.tell(y, "s");
                y.platform(0, delay, 1);
                y.whistle(0);
                for (int hour = 1; hour <= 7; hour++) {
                    int due = hour == delay ? 1 : 0;
                    y.hour();
                    t.due(due, () -> y.account(3));
                }
            }
        });
        t.test("17: a platform without a delay, or without the line in its set, does not echo", x -> {
            Sentences.tell(x, "s");
            x.platform(0, 0, 127);
            x.platform(1, 1, 126);
            x.whistle(0);
            t.due(0, () -> x.account(5));
        });
        t.test("17: an echo is heard in one hour alone, and is echoed no more", x -> {
            Sentences.tell(x, "s");
            x.platform(0, 1, 127);
            x.platform(1, 1, 127);
            x.whistle(0);
            x.hour();
            t.due(2, () -> x.account(3));
            t.due(0, () -> x.account(5));
            x.hour();
            t.due(0, () -> x.account(3));
        });
        t.test("17: it is heard ahead of all whistles, and stands on the strip as the hour begins", x -> {
            Sentences.tell(x, "ll", "s");
            x.platform(0, 1, 1);
            x.whistle(0);
            x.hour();
            t.due(2, () -> x.account(4));
            x.whistle(1);
            x.strip();
            t.due("lls", () -> Check.line(x));
        });
        t.test("17: what was whistled keeps its word when signs change later", x -> {
            Sentences.tell(x, "ll");
            x.platform(0, 5, 1);
            x.whistle(0);
            x.sign(0, 1, 0);
            Sentences.hours(x, 4);
            x.unsign(0);
            x.hour();
            x.strip();
            t.due("ll", () -> Check.line(x));
        });
        t.test("17: what was whistled before a platform was told is not echoed", x -> {
            Sentences.tell(x, "s");
            x.whistle(0);
            x.platform(0, 1, 1);
            x.hour();
            t.due(0, () -> x.account(3));
        });
    }

    private static void promise17OrderOfEchoes() {
        t.test("17: of several echoes that which was whistled first comes first: in one hour", x -> {
            Sentences.tell(x, "s", "l");
            x.platform(0, 1, 1);
            x.platform(1, 1, 2);
            x.whistle(1);
            x.whistle(0);
            x.hour();
            t.due(1, () -> x.heard(0, 1));
            t.due(0, () -> x.heard(1, 1));
        });
        t.test("17: of several echoes that which was whistled first comes first: in two hours", x -> {
            Sentences.tell(x, "s", "l");
            x.platform(3, 5, 1);
            x.platform(0, 1, 2);
            x.whistle(0);
            Sentences.hours(x, 4);
            x.whistle(1);
            x.hour();
            t.due(2, () -> x.account(3));
            t.due(3, () -> x.heard(0, 2));
            t.due(0, () -> x.heard(1, 2));
        });
        t.test("17: of those of one whistle that of the lowest platform", x -> {
            Sentences.tell(x, "s");
            for (int platform = 3; platform >= 0; platform--) {
                x.platform(platform, 2, 1);
            }
            x.whistle(0);
            Sentences.hours(x, 2);
            for (int place = 0; place < 4; place++) {
                int of = place;
                t.due(place, () -> x.heard(of, 2));
            }
        });
        t.test("17: one platform can echo two hours at once", x -> {
            Sentences.tell(x, "s", "l");
            x.platform(0, 2, 3);
            x.whistle(1);
            x.hour();
            x.platform(0, 1, 3);
            x.whistle(0);
            x.hour();
            t.due(2, () -> x.account(3));
            t.due(1, () -> x.heard(0, 1));
            t.due(0, () -> x.heard(1, 1));
            t.due(2, () -> x.platformOf(0, 2));
        });
    }

    private static void promise18Way() {
        t.test("18: -1 if nothing is heard", x -> {
            Sentences.tell(x, "s");
            t.due(-1, () -> x.way());
            x.lie(1, 0);
            x.expose(1);
            t.due(-1, () -> x.way());
        });
        t.test("18: -2 for an echo", x -> {
            Sentences.tell(x, "s");
            x.platform(3, 1, 1);
            x.whistle(0);
            x.hour();
            t.due(-2, () -> x.way());
        });
        t.test("18: the line that would pass: the first and the last line", x -> {
            Sentences.tell(x, "s", "", "", "", "", "", "l");
            x.whistle(0);
            t.due(0, () -> x.way());
            x.priority(6, 1);
            x.whistle(6);
            t.due(6, () -> x.way());
        });
        t.test("18: of several the first one", x -> {
            Sentences.tell(x, "s", "", "", "", "", "", "l");
            x.whistle(6);
            x.whistle(0);
            t.due(6, () -> x.way());
            x.priority(0, 1);
            t.due(0, () -> x.way());
            x.priority(6, 1);
            t.due(6, () -> x.way());
        });
        t.test("18: the liar would pass, until the lie is exposed", x -> {
            Sentences.tell(x, "s", "l");
            x.priority(0, 9);
            x.lie(5, 0);
            x.whistle(1);
            t.due(5, () -> x.way());
            x.expose(5);
            t.due(1, () -> x.way());
        });
        t.test("18: to ask it changes nothing", x -> {
            Sentences.tell(x, "s");
            x.whistle(0);
            String before = Check.everything(x);
            x.way();
            t.due(before, () -> Check.everything(x));
        });
    }

    private static void promise19Heard() {
        t.test("19: no such place where nothing is heard", x -> {
            t.fails(Sentences.NONE, () -> x.heard(0, 0));
            t.fails(Sentences.NONE, () -> x.heard(-1, 0));
        });
        t.test("19: its place, from 0 to the last; no such place ahead of or behind them", x -> {
            Sentences.tell(x, "s", "l");
            x.whistle(1);
            x.whistle(0);
            t.due(1, () -> x.heard(0, 0));
            t.due(0, () -> x.heard(1, 0));
            for (int place : new int[] {-1, 2, Integer.MIN_VALUE, Integer.MAX_VALUE}) {
                t.fails(Sentences.NONE, () -> x.heard(place, 0));
            }
        });
        t.test("19: a lie that was exposed has no place", x -> {
            Sentences.tell(x, "s", "l");
            x.lie(2, 1);
            x.whistle(0);
            x.expose(2);
            t.due(0, () -> x.heard(0, 1));
            t.fails(Sentences.NONE, () -> x.heard(1, 0));
        });
        t.test("19: what is out of range", x -> {
            Sentences.tell(x, "s");
            x.whistle(0);
            for (int what : new int[] {-1, 5, Integer.MIN_VALUE, Integer.MAX_VALUE}) {
                t.fails(Sentences.BAD, () -> x.heard(0, what));
            }
        });
        t.test("19: a missing place is told ahead of what", x -> {
            t.fails(Sentences.NONE, () -> x.heard(0, 5));
            t.fails(Sentences.NONE, () -> x.heard(-1, -1));
        });
        t.test("19: 2 for -1 for a whistle", x -> {
            Sentences.tell(x, "s");
            x.whistle(0);
            x.lie(6, 0);
            t.due(-1, () -> x.heard(0, 2));
            t.due(-1, () -> x.heard(1, 2));
        });
        t.test("19: 0 for the line that is told, 1 for that which whistled, 2 for the platform, of an echo", x -> {
            Sentences.tell(x, "", "", "", "", "", "s");
            x.platform(0, 1, 64);
            x.platform(3, 1, 64);
            x.lie(6, 5);
            x.hour();
            t.due(5, () -> x.heard(0, 0));
            t.due(6, () -> x.heard(0, 1));
            t.due(0, () -> x.heard(0, 2));
            t.due(5, () -> x.heard(1, 0));
            t.due(6, () -> x.heard(1, 1));
            t.due(3, () -> x.heard(1, 2));
        });
        t.test("19: 3 for the length of its word, 4 for the bits of this: the least and the most", x -> {
            Sentences.tell(x, "s", "llllll");
            x.platform(0, 1, 127);
            x.hour();
            x.whistle(0);
            x.whistle(1);
            x.hour();
            t.due(1, () -> x.heard(0, 3));
            t.due(0, () -> x.heard(0, 4));
            t.due(6, () -> x.heard(1, 3));
            t.due(63, () -> x.heard(1, 4));
        });
        t.test("19: what was whistled keeps its word when signs change later", x -> {
            Sentences.tell(x, "lls");
            x.whistle(0);
            x.sign(0, 1, 0);
            t.due(3, () -> x.heard(0, 3));
            x.unsign(0);
            t.due(3, () -> x.heard(0, 4));
        });
    }

    private static void promise20Ways() {
        t.test("20: 1 if the strip is empty, without signs and with signs", x -> {
            dueWays(x, 1);
            Sentences.tell(x, "s", "l", "ss");
            dueWays(x, 1);
        });
        t.test("20: 1 again as the next hour begins", x -> {
            Sentences.tell(x, "s", "ss");
            x.whistle(1);
            dueWays(x, 2);
            x.hour();
            dueWays(x, 1);
        });
        t.test("20: the sixth letter of a sign is asked", x -> {
            Sentences.sound(x, "sssssl");
            Sentences.tell(x, "ssssss");
            dueWays(x, 0);
            Sentences.tell(x, "", "sssssl");
            dueWays(x, 1);
        });
        t.test("20: none if no line has a sign now", x -> {
            Sentences.sound(x, "s");
            dueWays(x, 0);
        });
        t.test("20: none if the last letter cannot be read, in how many ways the others ever can", x -> {
            Sentences.sound(x, "sssssssssssssssssssssssssssssl");
            Sentences.tell(x, "s", "ss", "sss");
            dueWays(x, 0);
        });
        t.test("20: none if the first letter cannot be read, in how many ways the others ever can", x -> {
            Sentences.sound(x, "lsssssssssssssssssssssssssssss");
            Sentences.tell(x, "s", "ss", "sss");
            dueWays(x, 0);
        });
        t.test("20: a sign that is longer than the strip reads nothing", x -> {
            Sentences.sound(x, "sss");
            Sentences.tell(x, "ssss", "sss", "ssssss");
            dueWays(x, 1);
        });
        t.test("20: a sign of six letters is read", x -> {
            Sentences.sound(x, "slsslslslsll");
            Sentences.tell(x, "slssls", "lslsll", "slssl");
            dueWays(x, 1);
        });
        t.test("20: one behind the other: over the ends of what was whistled", x -> {
            Sentences.tell(x, "ls", "sl");
            x.whistle(0);
            x.whistle(1);
            x.sign(2, 4, 9);
            dueWays(x, 2);
            x.unsign(0);
            dueWays(x, 1);
        });
        t.test("20: signs that lines have now, not those that were whistled", x -> {
            Sentences.tell(x, "ls");
            x.whistle(0);
            x.sign(0, 1, 1);
            dueWays(x, 0);
            x.sign(1, 1, 0);
            dueWays(x, 1);
        });
        t.test("20: the letters of a lie that was exposed stay on the strip", x -> {
            Sentences.tell(x, "s", "ss");
            x.lie(2, 1);
            x.expose(2);
            dueWays(x, 2);
        });
        t.test("20: the letters of echoes are read, too", x -> {
            Sentences.tell(x, "s", "ss");
            x.platform(0, 1, 1);
            x.platform(1, 1, 1);
            x.whistle(0);
            x.hour();
            dueWays(x, 2);
        });
    }

    private static void promise20MostWays() {
        t.test("20: at most 9999: 9998 are told", x -> {
            Sentences.sound(x, "sslssllllsssslssssssssslsssssssssss");
            Sentences.tell(x, "s", "l", "sss", "sls");
            dueWays(x, 9998);
        });
        t.test("20: at most 9999: 9999 are told", x -> {
            Sentences.sound(x, "sslsssslssssssssssssssllsslslsssss");
            Sentences.tell(x, "s", "l", "sls", "sss");
            dueWays(x, 9999);
        });
        t.test("20: at most 9999: of 10000", x -> {
            Sentences.sound(x, "ssslsssslssslssssssssllslslssssssss");
            Sentences.tell(x, "s", "l", "ssss", "sss");
            dueWays(x, 9999);
        });
        t.test("20: at most 9999: of more ways than an int or a long can count", x -> {
            Sentences.soundMost(x);
            Sentences.tell(x, "s", "ss", "sss", "ssss", "sssss", "ssssss");
            dueWays(x, 9999);
        });
        t.test("20: all letters of the longest strip are read", x -> {
            Sentences.soundMost(x);
            Sentences.tell(x, "ssssss");
            dueWays(x, 1);
            Sentences.tell(x, "", "sssss");
            x.unsign(0);
            dueWays(x, 0);
        });
        t.test("20: at most 9999: of more than 2 to the power of 31, which are below 0 for an int", x -> {
            Sentences.sound(x, "sssssssssssssssssssssssssssssssss");
            Sentences.tell(x, "s", "ss", "sss", "ssss", "sssss", "ssssss");
            dueWays(x, 9999);
        });
    }

    private static void dueWays(WhistleJunction x, int due) {
        t.due(due, () -> x.ways(false));
        t.due(due, () -> x.ways(true));
    }

    private static void promise21Reading() {
        t.test("21: no place of an empty strip", x -> {
            Sentences.tell(x, "s");
            t.fails(Sentences.NONE, () -> x.reading(0));
            t.fails(Sentences.NONE, () -> x.reading(-1));
        });
        t.test("21: the place, from 0 to the last", x -> {
            Sentences.sound(x, "slls");
            Sentences.tell(x, "s", "l");
            dueReading(x, 0, 1, 1, 0);
        });
        t.test("21: the strip cannot be read", x -> {
            Sentences.sound(x, "ssl");
            t.fails(Sentences.NONE, () -> x.reading(0));
            Sentences.tell(x, "s");
            t.fails(Sentences.NONE, () -> x.reading(0));
        });
        t.test("21: the strip cannot be read from its first letter on", x -> {
            Sentences.sound(x, "lss");
            Sentences.tell(x, "s");
            t.fails(Sentences.NONE, () -> x.reading(0));
            t.fails(Sentences.NONE, () -> x.reading(1));
        });
        t.test("21: the line with the lowest number comes first at each place: the shorter sign", x -> {
            Sentences.sound(x, "ssssss");
            Sentences.tell(x, "s", "ss", "ssssss");
            dueReading(x, 0, 0, 0, 0, 0, 0);
        });
        t.test("21: the line with the lowest number comes first at each place: the longer sign", x -> {
            Sentences.sound(x, "ssssss");
            Sentences.tell(x, "ssssss", "ss", "s");
            dueReading(x, 0);
        });
        t.test("21: a lower line after which the rest cannot be read is passed over", x -> {
            Sentences.sound(x, "sssss");
            Sentences.tell(x, "ssss", "sss", "ss");
            dueReading(x, 1, 2);
        });
        t.test("21: a lower line is passed over for a dead end that shows late", x -> {
            Sentences.sound(x, "slslslslslsl");
            Sentences.tell(x, "s", "ls", "", "", "", "slsl", "sl");
            dueReading(x, 5, 5, 5);
        });
        t.test("21: the last line reads the last letter", x -> {
            Sentences.sound(x, "ssssssl");
            Sentences.tell(x, "ssssss", "", "", "", "", "", "l");
            dueReading(x, 0, 6);
        });
        t.test("21: the sixth letter of a sign tells it from a lower line's", x -> {
            Sentences.sound(x, "ssssslsssssssssssl");
            Sentences.tell(x, "ssssss", "sssssl", "llllll");
            dueReading(x, 1, 0, 1);
        });
        t.test("21: the last place of the longest strip", x -> {
            Sentences.soundMost(x);
            Sentences.tell(x, "", "", "", "", "", "", "ssssss");
            t.due(6, () -> x.reading(0));
            t.due(6, () -> x.reading(132));
            t.fails(Sentences.NONE, () -> x.reading(133));
            Sentences.tell(x, "s");
            t.due(0, () -> x.reading(797));
            t.fails(Sentences.NONE, () -> x.reading(798));
        });
        t.test("21: the first way of more than 9999", x -> {
            Sentences.sound(x, "sssssssssssssssssssssssssssssl");
            Sentences.tell(x, "sss", "s", "l", "ss");
            dueReading(x, 0, 0, 0, 0, 0, 0, 0, 0, 0, 1, 1, 2);
        });
    }

    private static void dueReading(WhistleJunction x, int... due) {
        for (int i = 0; i < due.length; i++) {
            int place = i;
            t.due(due[i], () -> x.reading(place));
        }
        for (int place : new int[] {-1, due.length, due.length + 1, Integer.MIN_VALUE, Integer.MAX_VALUE}) {
            t.fails(Sentences.NONE, () -> x.reading(place));
        }
    }

    private static void promise22Soonest() {
        t.test("22: 0 if it could now: with all of its steam", x -> {
            Sentences.tell(x, "lllll", "", "", "", "", "", "s");
            t.due(0, () -> x.soonest(0));
            t.due(0, () -> x.soonest(6));
        });
        t.test("22: as long as steam is lacking: one and two for one hour", x -> {
            Sentences.tell(x, "llllls", "llllll");
            t.due(1, () -> x.soonest(0));
            t.due(1, () -> x.soonest(1));
        });
        t.test("22: as long as steam is lacking: from none to the dearest word", x -> {
            Sentences.tell(x, "lllll");
            x.whistle(0);
            x.sign(0, 6, 63);
            t.due(6, () -> x.soonest(0));
            x.sign(0, 6, 31);
            t.due(6, () -> x.soonest(0));
            x.sign(0, 5, 31);
            t.due(5, () -> x.soonest(0));
        });
        t.test("22: a line that whistled in this hour: with steam enough in the next", x -> {
            Sentences.tell(x, "s", "lll");
            x.whistle(0);
            x.whistle(1);
            t.due(1, () -> x.soonest(0));
            t.due(1, () -> x.soonest(1));
            x.hour();
            t.due(0, () -> x.soonest(0));
            t.due(0, () -> x.soonest(1));
        });
        t.test("22: a line that lied in this hour: in the next; if it was exposed, after its mute", x -> {
            Sentences.tell(x, "s", "l", "ss");
            x.lie(0, 1);
            x.lie(2, 1);
            x.expose(2);
            t.due(1, () -> x.soonest(0));
            t.due(3, () -> x.soonest(2));
        });
        t.test("22: as long as it is muted: one hour and nine", x -> {
            Sentences.tell(x, "s", "l");
            x.mute(0, 1);
            x.mute(1, 9);
            t.due(1, () -> x.soonest(0));
            t.due(9, () -> x.soonest(1));
        });
        t.test("22: while it is muted it gets no steam", x -> {
            Sentences.tell(x, "llllls", "lllll");
            x.mute(0, 1);
            x.mute(1, 1);
            t.due(2, () -> x.soonest(0));
            t.due(1, () -> x.soonest(1));
        });
        t.test("22: whistled and muted: the hours of the mute are those of the wait", x -> {
            Sentences.tell(x, "s");
            x.whistle(0);
            x.mute(0, 1);
            t.due(1, () -> x.soonest(0));
            x.fine(0);
            x.mute(0, 2);
            t.due(2, () -> x.soonest(0));
        });
        t.test("22: a fine that was paid makes it sooner", x -> {
            Sentences.tell(x, "s");
            x.mute(0, 5);
            x.fine(0);
            t.due(0, () -> x.soonest(0));
        });
        t.test("22: it asks nothing of priorities, coins or what is heard", x -> {
            Sentences.tell(x, "s", "l");
            x.mute(0, 5);
            x.fine(0);
            x.whistle(1);
            x.lie(2, 0);
            t.due(0, () -> x.soonest(0));
        });
    }

    private static void promise22NoSoonest() {
        t.test("22: no such line", x -> {
            for (int line : Sentences.NO_LINES) {
                t.fails(Sentences.NO_INDEX, () -> x.soonest(line));
            }
        });
        t.test("22: it has no sign", x -> {
            Sentences.tell(x, "s");
            t.fails(Sentences.NONE, () -> x.soonest(6));
            x.unsign(0);
            t.fails(Sentences.NONE, () -> x.soonest(0));
        });
        t.test("22: the line can whistle after as many hours, and not before", x -> {
            Sentences.tell(x, "lllll", "s");
            x.lie(0, 1);
            x.mute(0, 9);
            x.expose(0);
            t.due(13, () -> x.soonest(0));
            Sentences.hours(x, 12);
            t.refused(x, 6, 2, () -> x.whistle(0));
            x.hour();
            t.due(0, () -> x.whistle(0));
        });
        t.test("22: to ask it changes nothing", x -> {
            Sentences.tell(x, "llllll");
            x.mute(0, 3);
            String before = Check.everything(x);
            x.soonest(0);
            Check.answerOf(() -> x.soonest(1));
            t.due(before, () -> Check.everything(x));
            t.fails(Sentences.NO_STATE, () -> x.refusal(false));
        });
    }

    private static void promise23Ranked() {
        t.test("23: there is no such measure", x -> {
            for (int measure : new int[] {-1, 3, Integer.MIN_VALUE, Integer.MAX_VALUE}) {
                t.fails(Sentences.BAD, () -> x.ranked(measure, 0));
            }
        });
        t.test("23: there is no such place", x -> {
            for (int place : Sentences.NO_LINES) {
                t.fails(Sentences.NONE, () -> x.ranked(0, place));
                t.fails(Sentences.NONE, () -> x.ranked(2, place));
            }
        });
        t.test("23: a wrong measure is told ahead of a missing place", x -> {
            t.fails(Sentences.BAD, () -> x.ranked(3, 7));
            t.fails(Sentences.BAD, () -> x.ranked(-1, -1));
        });
        t.test("23: of several the lowest: all are alike", x -> {
            dueRanked(x, 0, 0, 1, 2, 3, 4, 5, 6);
            dueRanked(x, 1, 0, 1, 2, 3, 4, 5, 6);
            dueRanked(x, 2, 0, 1, 2, 3, 4, 5, 6);
        });
        t.test("23: 0 by priority, the most first", x -> {
            for (int line = 0; line < 7; line++) {
                x.priority(line, line + 3);
            }
            dueRanked(x, 0, 6, 5, 4, 3, 2, 1, 0);
            dueRanked(x, 1, 0, 1, 2, 3, 4, 5, 6);
        });
        t.test("23: 1 by steam, the most first: from 20 to 0", x -> {
            Sentences.tell(x, "lllll");
            Sentences.hours(x, 5);
            x.lie(1, 0);
            x.whistle(0);
            dueRanked(x, 1, 2, 3, 4, 5, 6, 0, 1);
        });
        t.test("23: 2 by how often it passed so far, the most first", x -> {
            Sentences.tell(x, "s", "", "", "", "", "", "l");
            x.whistle(6);
            x.hour();
            x.whistle(6);
            x.hour();
            x.lie(3, 0);
            x.hour();
            dueRanked(x, 2, 6, 3, 0, 1, 2, 4, 5);
        });
    }

    private static void dueRanked(WhistleJunction x, int measure, int... due) {
        for (int i = 0; i < due.length; i++) {
            int place = i;
            t.due(due[i], () -> x.ranked(measure, place));
        }
    }

    private static void promise24IsRight() {
        t.test("24: of a new object", x -> t.due(true, () -> x.isRight()));
        t.test("24: clear signs and an empty strip", x -> {
            Sentences.tell(x, "lll", "lls", "lsl", "lss", "sll", "sls", "ssl");
            t.due(true, () -> x.isRight());
        });
        t.test("24: clear signs and a strip that can be read in one way", x -> {
            Sentences.tell(x, "ls", "ll");
            x.whistle(0);
            x.whistle(1);
            t.due(true, () -> x.isRight());
        });
        t.test("24: clear signs and a strip that cannot be read", x -> {
            Sentences.sound(x, "s");
            Sentences.tell(x, "l");
            t.due(true, () -> x.isRight());
        });
        t.test("24: signs that are not clear, and a strip of several ways", x -> {
            Sentences.tell(x, "s", "ss");
            x.whistle(1);
            t.due(2, () -> x.ways(false));
            t.due(true, () -> x.isRight());
        });
        t.test("24: more than 9999 ways", x -> {
            Sentences.sound(x, "sssssssssssssssssssssssssssssss");
            Sentences.tell(x, "s", "ss", "sss");
            t.due(true, () -> x.isRight());
        });
        t.test("24: no word is free", x -> {
            Sentences.tell(x, "s", "l", "ss", "ll", "sl", "ls", "llllll");
            t.due(true, () -> x.isRight());
        });
        t.test("24: lies that were exposed, and echoes", x -> {
            Sentences.tell(x, "s", "ss");
            x.platform(0, 1, 127);
            x.lie(2, 1);
            x.expose(2);
            t.due(true, () -> x.isRight());
            x.hour();
            t.due(true, () -> x.isRight());
        });
    }
}
