import java.util.ArrayDeque;
import java.util.ArrayList;
import java.util.Arrays;
import java.util.Deque;
import java.util.List;
import java.util.NoSuchElementException;
import java.util.regex.Pattern;

/**
 * The document told a second time, with texts and lists and without a care for speed, so that
 * ModelTest can compare long runs of calls. It shares no way of counting with the program.
 */
public final class Model {
    private record Sound(int told, int by, int platform, String word, int dueHour) {
    }

    private static final class Junction {
        String[] signs = new String[7];
        int[] priority = new int[7];
        int[] steam = {10, 10, 10, 10, 10, 10, 10};
        int[] coins = {10, 10, 10, 10, 10, 10, 10};
        int[] mute = new int[7];
        int[] passed = new int[7];
        int[] lied = new int[7];
        int[] exposed = new int[7];
        boolean[] whistled = new boolean[7];
        boolean[] isOpenLiar = new boolean[7];
        int[] delay = new int[4];
        int[] lines = new int[4];
        int[] echoed = new int[4];
        List<Sound> heard = new ArrayList<>();
        List<Sound> toCome = new ArrayList<>();
        String strip = "";
        int hour = 0;
        int whistles = 0;
        int toWhistles = 0;
        int toEchoes = 0;
        int fines = 0;

        Junction copy() {
            Junction c = new Junction();
            c.signs = signs.clone();
            c.priority = priority.clone();
            c.steam = steam.clone();
            c.coins = coins.clone();
            c.mute = mute.clone();
            c.passed = passed.clone();
            c.lied = lied.clone();
            c.exposed = exposed.clone();
            c.whistled = whistled.clone();
            c.isOpenLiar = isOpenLiar.clone();
            c.delay = delay.clone();
            c.lines = lines.clone();
            c.echoed = echoed.clone();
            c.heard = new ArrayList<>(heard);
            c.toCome = new ArrayList<>(toCome);
            c.strip = strip;
            c.hour = hour;
            c.whistles = whistles;
            c.toWhistles = toWhistles;
            c.toEchoes = toEchoes;
            c.fines = fines;
            return c;
        }
    }

    private Junction j = new Junction();
    private Junction saved = null;
    private final Deque<Junction> undoable = new ArrayDeque<>();
    private boolean isReading = false;
    private String buffer = "";
    private String line = "";
    private Integer error = null;
    private Integer item = null;
    private int[] refusal = null;

    private static void index(boolean isGood) {
        if (!isGood) {
            throw new IndexOutOfBoundsException();
        }
    }

    private static void argument(boolean isGood) {
        if (!isGood) {
            throw new IllegalArgumentException();
        }
    }

    private static void element(boolean isGood) {
        if (!isGood) {
            throw new NoSuchElementException();
        }
    }

    private static boolean within(int number, int lowest, int highest) {
        return lowest <= number && number <= highest;
    }

    private void refuseIf(boolean isSo, int reason, int detail) {
        if (isSo) {
            refusal = new int[] {reason, detail};
            throw new UnsupportedOperationException();
        }
    }

    private void change() {
        if (!isReading) {
            keep(j.copy());
        }
    }

    private void keep(Junction old) {
        undoable.addLast(old);
        if (undoable.size() > 8) {
            undoable.removeFirst();
        }
    }

    private int signs() {
        return (int) Arrays.stream(j.signs).filter(s -> s != null).count();
    }

    private static int positive(int[] row) {
        return (int) Arrays.stream(row).filter(n -> n > 0).count();
    }

    private static String word(int length, int bits) {
        String word = "";
        for (int i = 0; i < length; i++) {
            word += (bits >> i) % 2 == 1 ? "l" : "s";
        }
        return word;
    }

    private static int cost(String word) {
        return word.length() + word.replace("s", "").length();
    }

    private static int bits(String word) {
        int bits = 0;
        for (int i = word.length() - 1; i >= 0; i--) {
            bits = 2 * bits + (word.charAt(i) == 'l' ? 1 : 0);
        }
        return bits;
    }

    public int clear() {
        int signs = signs();
        j = new Junction();
        undoable.clear();
        return signs;
    }

    public int sign(int line, int length, int bits) {
        index(within(line, 0, 6));
        argument(within(length, 1, 6) && within(bits, 0, (int) Math.pow(2, length) - 1));
        String word = word(length, bits);
        int owner = Arrays.asList(j.signs).indexOf(word);
        refuseIf(owner >= 0, 1, owner);
        change();
        j.signs[line] = word;
        return cost(word);
    }

    public int unsign(int line) {
        index(within(line, 0, 6));
        refuseIf(j.signs[line] == null, 2, signs());
        change();
        j.signs[line] = null;
        return signs();
    }

    public int priority(int line, int priority) {
        index(within(line, 0, 6));
        argument(within(priority, 0, 9));
        int old = j.priority[line];
        refuseIf(old == priority, 3, old);
        change();
        j.priority[line] = priority;
        return old;
    }

    public int platform(int platform, int delay, int lines) {
        index(within(platform, 0, 3));
        argument(within(delay, 0, 5) && within(lines, 0, 127));
        change();
        j.delay[platform] = delay;
        j.lines[platform] = lines;
        return positive(j.delay);
    }

    public int lineOf(int line, int what) {
        index(within(line, 0, 6));
        argument(within(what, 0, 9));
        String sign = j.signs[line] == null ? "" : j.signs[line];
        return new int[] {sign.length(), bits(sign), j.priority[line], j.steam[line], j.coins[line], j.mute[line],
            j.passed[line], j.lied[line], j.exposed[line], j.whistled[line] ? 1 : 0}[what];
    }

    public int platformOf(int platform, int what) {
        index(within(platform, 0, 3));
        argument(within(what, 0, 3));
        int toCome = (int) j.toCome.stream().filter(s -> s.platform == platform).count();
        return new int[] {j.delay[platform], j.lines[platform], j.echoed[platform], toCome}[what];
    }

    public int clash(int one, int other) {
        index(within(one, 0, 6) && within(other, 0, 6));
        if (j.signs[one] == null || j.signs[other] == null) {
            return 0;
        }
        if (one == other) {
            return 3;
        }
        return j.signs[other].startsWith(j.signs[one]) ? 1 : j.signs[one].startsWith(j.signs[other]) ? 2 : 0;
    }

    public boolean isClear() {
        for (int i = 0; i < 49; i++) {
            if (i / 7 != i % 7 && clash(i / 7, i % 7) != 0) {
                return false;
            }
        }
        return true;
    }

    public int free(int length, boolean isAgain) {
        argument(within(length, 1, 6));
        int free = 0;
        for (int bits = 0; bits < Math.pow(2, length); bits++) {
            String word = word(length, bits);
            boolean isFree = Arrays.stream(j.signs).noneMatch(s -> s != null && (s.startsWith(word) || word.startsWith(s)));
            free += isFree ? 1 : 0;
        }
        return free;
    }

    public int whistle(int line) {
        index(within(line, 0, 6));
        return blow(line, line, 1);
    }

    public int lie(int line, int as) {
        index(within(line, 0, 6) && within(as, 0, 6));
        argument(line != as);
        return blow(line, as, 2);
    }

    private int blow(int line, int told, int times) {
        refuseIf(j.signs[told] == null, 2, signs());
        refuseIf(j.mute[line] > 0, 4, j.mute[line]);
        refuseIf(j.whistled[line], 5, j.hour);
        int cost = times * cost(j.signs[told]);
        refuseIf(cost > j.steam[line], 6, cost - j.steam[line]);
        change();
        j.steam[line] -= cost;
        j.whistled[line] = true;
        j.isOpenLiar[line] = times == 2;
        j.lied[line] += times - 1;
        j.whistles++;
        j.heard.add(new Sound(told, line, -1, j.signs[told], j.hour));
        j.strip += j.signs[told];
        for (int p = 0; p < 4; p++) {
            if (j.delay[p] > 0 && (j.lines[p] / (int) Math.pow(2, line)) % 2 == 1) {
                j.toCome.add(new Sound(told, line, p, j.signs[told], j.hour + j.delay[p]));
            }
        }
        return j.steam[line];
    }

    public int expose(int line) {
        index(within(line, 0, 6));
        refuseIf(!j.isOpenLiar[line], 7, j.heard.size());
        change();
        j.heard.removeIf(s -> s.by == line && s.platform < 0);
        j.isOpenLiar[line] = false;
        j.exposed[line]++;
        return j.mute[line] += 3;
    }

    public int mute(int line, int hours) {
        index(within(line, 0, 6));
        argument(within(hours, 1, 9));
        refuseIf(j.mute[line] > 0, 4, j.mute[line]);
        change();
        j.mute[line] = hours;
        return positive(j.mute);
    }

    public int fine(int line) {
        index(within(line, 0, 6));
        refuseIf(j.mute[line] == 0, 8, j.coins[line]);
        int price = 2 * j.mute[line];
        refuseIf(price > j.coins[line], 9, price - j.coins[line]);
        change();
        j.coins[line] -= price;
        j.fines += price;
        j.mute[line] = 0;
        return j.coins[line];
    }

    private Sound winner() {
        int highest = j.heard.stream().mapToInt(s -> j.priority[s.told]).max().orElse(-1);
        return j.heard.stream().filter(s -> j.priority[s.told] == highest).findFirst().orElse(null);
    }

    public int way() {
        Sound winner = winner();
        return winner == null ? -1 : winner.platform >= 0 ? -2 : winner.by;
    }

    public int hour() {
        change();
        int way = way();
        if (way >= 0) {
            j.passed[way]++;
            j.coins[way] += 3;
            j.toWhistles++;
        }
        if (way == -2) {
            j.toEchoes++;
        }
        for (int i = 0; i < 7; i++) {
            j.steam[i] += j.mute[i] == 0 ? Math.min(2, 20 - j.steam[i]) : 0;
        }
        for (int i = 0; i < 7; i++) {
            j.mute[i] = Math.max(0, j.mute[i] - 1);
        }
        j.hour++;
        j.strip = "";
        j.heard.clear();
        Arrays.fill(j.whistled, false);
        Arrays.fill(j.isOpenLiar, false);
        for (Sound echo : j.toCome) {
            if (echo.dueHour == j.hour) {
                j.heard.add(echo);
                j.strip += echo.word;
                j.echoed[echo.platform]++;
            }
        }
        j.toCome.removeIf(s -> s.dueHour == j.hour);
        return way;
    }

    public int heard(int place, int what) {
        element(within(place, 0, j.heard.size() - 1));
        argument(within(what, 0, 4));
        Sound s = j.heard.get(place);
        return new int[] {s.told, s.by, s.platform, s.word.length(), bits(s.word)}[what];
    }

    /** In how many ways the rest of the strip can be read, for each place. */
    private double[] readings() {
        double[] ways = new double[j.strip.length() + 1];
        for (int i = j.strip.length(); i >= 0; i--) {
            ways[i] = i == j.strip.length() ? 1 : 0;
            for (String sign : j.signs) {
                ways[i] += sign != null && j.strip.startsWith(sign, i) ? ways[i + sign.length()] : 0;
            }
        }
        return ways;
    }

    public int ways(boolean isAgain) {
        return (int) Math.min(9999, readings()[0]);
    }

    public int reading(int place) {
        double[] ways = readings();
        List<Integer> lines = new ArrayList<>();
        for (int at = 0; ways[0] > 0 && at < j.strip.length();) {
            int line = 0;
            while (j.signs[line] == null || !j.strip.startsWith(j.signs[line], at) || ways[at + j.signs[line].length()] == 0) {
                line++;
            }
            lines.add(line);
            at += j.signs[line].length();
        }
        element(within(place, 0, lines.size() - 1));
        return lines.get(place);
    }

    public int soonest(int line) {
        index(within(line, 0, 6));
        element(j.signs[line] != null);
        Junction kept = j;
        j = kept.copy();
        isReading = true;
        int[] refusalBefore = refusal;
        int hours = 0;
        while (!canWhistle(line)) {
            hour();
            hours++;
        }
        refusal = refusalBefore;
        isReading = false;
        j = kept;
        return hours;
    }

    private boolean canWhistle(int line) {
        try {
            whistle(line);
            return true;
        } catch (UnsupportedOperationException e) {
            return false;
        }
    }

    public int ranked(int measure, int place) {
        argument(within(measure, 0, 2));
        element(within(place, 0, 6));
        int[] by = new int[][] {j.priority, j.steam, j.passed}[measure];
        List<Integer> lines = new ArrayList<>(List.of(0, 1, 2, 3, 4, 5, 6));
        lines.sort((a, b) -> by[b] - by[a]);
        return lines.get(place);
    }

    public boolean isRight() {
        return true;
    }

    public int text(int line) {
        index(within(line, 0, 6));
        this.line = line + (j.signs[line] == null ? "" : ":" + j.signs[line]) + "/" + j.priority[line] + "*" + j.steam[line]
            + (j.mute[line] > 0 ? "!" + j.mute[line] : "");
        return this.line.length();
    }

    public int strip() {
        line = j.strip;
        return line.length();
    }

    public char character(int index) {
        index(within(index, 0, line.length() - 1));
        return line.charAt(index);
    }

    public int refusal(boolean isDetail) {
        if (refusal == null) {
            throw new IllegalStateException();
        }
        return refusal[isDetail ? 1 : 0];
    }

    public int account(int what) {
        argument(within(what, 0, 15));
        return new int[] {j.hour, signs(), positive(j.mute), j.heard.size(), j.strip.length(), j.toCome.size(), j.whistles,
            Arrays.stream(j.lied).sum(), Arrays.stream(j.exposed).sum(), j.toWhistles, j.toEchoes,
            Arrays.stream(j.steam).sum(), Arrays.stream(j.coins).sum(), j.fines, buffer.length(), undoable.size()}[what];
    }

    public double meanLength() {
        if (signs() == 0) {
            throw new ArithmeticException();
        }
        double sum = 0;
        for (String sign : j.signs) {
            sum += sign == null ? 0 : sign.length();
        }
        return sum / signs();
    }

    public float lieShare() {
        if (j.whistles == 0) {
            throw new ArithmeticException();
        }
        return (float) Arrays.stream(j.lied).sum() / j.whistles;
    }

    public int append(int packed) {
        String more = "";
        for (byte b : java.nio.ByteBuffer.allocate(4).putInt(packed).array()) {
            argument(b == 0 || b >= 32 && b <= 126);
            more += b == 0 ? "" : (char) b;
        }
        if (buffer.length() + more.length() > 60) {
            throw new IllegalStateException();
        }
        buffer += more;
        return buffer.length();
    }

    private static final String ORDER =
        "(s[0-9]:[ls]{1,6}|u[0-9]|p[0-9]=[0-9]|w[0-9]|l[0-9]>[0-9]|x[0-9]|m[0-9]:[0-9]|f[0-9]|h)";
    private static final Pattern ORDERS = Pattern.compile(ORDER + "(;" + ORDER + ")*");

    /** The error position is as long as the longest beginning with which a well-formed input begins. */
    private static int errorIn(String input) {
        for (int end = 0; end < input.length(); end++) {
            var matcher = ORDERS.matcher(input.substring(0, end + 1));
            if (!matcher.matches() && !matcher.hitEnd()) {
                return end;
            }
        }
        return input.length();
    }

    public int read() {
        String input = buffer;
        buffer = "";
        if (!ORDERS.matcher(input).matches()) {
            error = errorIn(input);
            throw new IllegalArgumentException();
        }
        String[] orders = input.split(";");
        Junction old = j.copy();
        isReading = true;
        for (int i = 0; i < orders.length; i++) {
            try {
                order(orders[i]);
            } catch (RuntimeException e) {
                j = old;
                isReading = false;
                item = i;
                throw new UnsupportedOperationException();
            }
        }
        isReading = false;
        keep(old);
        return orders.length;
    }

    private void order(String order) {
        int line = order.length() > 1 ? order.charAt(1) - '0' : 0;
        String rest = order.length() > 3 ? order.substring(3) : "0";
        switch (order.charAt(0)) {
            case 's' -> sign(line, rest.length(), bits(rest));
            case 'u' -> unsign(line);
            case 'p' -> priority(line, rest.charAt(0) - '0');
            case 'w' -> whistle(line);
            case 'l' -> lie(line, rest.charAt(0) - '0');
            case 'x' -> expose(line);
            case 'm' -> mute(line, rest.charAt(0) - '0');
            case 'f' -> fine(line);
            default -> hour();
        }
    }

    public int errorPosition() {
        element(error != null);
        return error;
    }

    public int refusedItem() {
        element(item != null);
        return item;
    }

    public int undo() {
        if (undoable.isEmpty()) {
            throw new IllegalStateException();
        }
        j = undoable.removeLast();
        return undoable.size();
    }

    public int snapshot() {
        saved = j.copy();
        return signs();
    }

    public int restore() {
        if (saved == null) {
            throw new IllegalStateException();
        }
        j = saved.copy();
        undoable.clear();
        return signs();
    }
}
