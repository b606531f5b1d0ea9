import java.util.NoSuchElementException;

/**
 * A junction of seven lines with whistles. DOC.md says in numbered promises what each call does.
 *
 * A change is looked through first, by a method faultOf.., and carried out only if there is no
 * fault. So the calls and the orders of an input share one way, and no exception has to be caught.
 */
public final class WhistleJunction {
    private static final int LINES = 7;
    private static final int PLATFORMS = 4;
    private static final int LONGEST_WORD = 6;
    private static final int HIGHEST_PRIORITY = 9;
    private static final int LONGEST_DELAY = 5;
    private static final int ALL_LINES = 127;
    private static final int LONGEST_MUTE = 9;
    private static final int FIRST_STEAM = 10;
    private static final int MOST_STEAM = 20;
    private static final int STEAM_AN_HOUR = 2;
    private static final int FIRST_COINS = 10;
    private static final int COINS_FOR_PASSING = 3;
    private static final int FINE_AN_HOUR = 2;
    private static final int HOURS_FOR_A_LIE = 3;
    private static final int NOTHING_HEARD = -1;
    private static final int ECHO_HEARD = -2;
    private static final int MOST_WAYS = 9999;
    private static final int MOST_CHARACTERS = 60;
    private static final int MOST_CHANGES = 8;

    // Each whistle of the latest five hours can still be echoed by every platform.
    private static final int MOST_ECHOES = LINES * PLATFORMS * LONGEST_DELAY;
    private static final int MOST_SOUNDS = MOST_ECHOES + LINES;
    private static final int MOST_LETTERS = MOST_SOUNDS * LONGEST_WORD;
    // No line waits for more than some twenty hours.
    private static final int LONGEST_WAIT = 1000;

    private static final int NO_FAULT = 0;
    private static final int FAULT_OF_INDEX = 1;
    private static final int FAULT_OF_ARGUMENT = 2;
    private static final int FAULT_REFUSED = 3;

    private static final int HAS_THIS_SIGN = 1;
    private static final int NO_SIGN = 2;
    private static final int IS_SO = 3;
    private static final int IS_MUTED = 4;
    private static final int HAS_WHISTLED = 5;
    private static final int TOO_LITTLE_STEAM = 6;
    private static final int NO_LIE = 7;
    private static final int NOT_MUTED = 8;
    private static final int TOO_FEW_COINS = 9;

    private final State now = new State();
    private final State before = new State();
    private final State saved = new State();
    private boolean isSaved = false;
    private final History history = new History();
    private final Input input = new Input();
    private final Strip letters = new Strip();
    private final StringBuilder written = new StringBuilder();
    private int malformedAt = -1;
    private int refusedOrder = -1;
    private int refusedFor = 0;
    private int refusedDetail = 0;

    public WhistleJunction() {
    }

    public int clear() {
        int signs = Signs.number(now.words);
        now.reset();
        history.forget();
        return signs;
    }

    // ---- signs and lines

    public int sign(int line, int length, int bits) throws IndexOutOfBoundsException, IllegalArgumentException, UnsupportedOperationException {
        startChange(faultOfSign(line, length, bits));
        return now.giveSign(line, Word.of(length, bits));
    }

    public int unsign(int line) throws IndexOutOfBoundsException, UnsupportedOperationException {
        startChange(faultOfUnsign(line));
        return now.takeSign(line);
    }

    public int priority(int line, int priority) throws IndexOutOfBoundsException, IllegalArgumentException, UnsupportedOperationException {
        startChange(faultOfPriority(line, priority));
        return now.givePriority(line, priority);
    }

    public int platform(int platform, int delay, int lines) throws IndexOutOfBoundsException, IllegalArgumentException {
        startChange(faultOfPlatform(platform, delay, lines));
        return now.tellPlatform(platform, delay, lines);
    }

    public int lineOf(int line, int what) throws IndexOutOfBoundsException, IllegalArgumentException {
        if (!isLine(line)) {
            throw new IndexOutOfBoundsException("there is no such line");
        }
        if (what < 0 || what > 9) {
            throw new IllegalArgumentException("there is no such number of a line");
        }
        return now.numberOfLine(line, what);
    }

    public int platformOf(int platform, int what) throws IndexOutOfBoundsException, IllegalArgumentException {
        if (!isPlatform(platform)) {
            throw new IndexOutOfBoundsException("there is no such platform");
        }
        if (what < 0 || what > 3) {
            throw new IllegalArgumentException("there is no such number of a platform");
        }
        return now.numberOfPlatform(platform, what);
    }

    public int clash(int one, int other) throws IndexOutOfBoundsException {
        if (!isLine(one) || !isLine(other)) {
            throw new IndexOutOfBoundsException("there is no such line");
        }
        return Signs.standing(now.words, one, other);
    }

    public boolean isClear() {
        return Signs.areClear(now.words);
    }

    public int free(int length, boolean isAgain) throws IllegalArgumentException {
        if (!isLength(length)) {
            throw new IllegalArgumentException("there are no words of this length");
        }
        return isAgain ? Signs.freeByBars(now.words, length) : Signs.freeByWords(now.words, length);
    }

    // ---- whistles and hours

    public int whistle(int line) throws IndexOutOfBoundsException, UnsupportedOperationException {
        startChange(faultOfWhistle(line));
        return now.blow(line, line);
    }

    public int lie(int line, int as) throws IndexOutOfBoundsException, IllegalArgumentException, UnsupportedOperationException {
        startChange(faultOfLie(line, as));
        return now.blow(line, as);
    }

    public int expose(int line) throws IndexOutOfBoundsException, UnsupportedOperationException {
        startChange(faultOfExpose(line));
        return now.exposeLiar(line);
    }

    public int mute(int line, int hours) throws IndexOutOfBoundsException, IllegalArgumentException, UnsupportedOperationException {
        startChange(faultOfMute(line, hours));
        return now.silence(line, hours);
    }

    public int fine(int line) throws IndexOutOfBoundsException, UnsupportedOperationException {
        startChange(faultOfFine(line));
        return now.payFine(line);
    }

    public int hour() {
        startChange(NO_FAULT);
        return now.endHour();
    }

    public int way() {
        return now.wayGoesTo();
    }

    public int heard(int place, int what) throws NoSuchElementException, IllegalArgumentException {
        int index = now.indexOfHeard(place);
        if (index < 0) {
            throw new NoSuchElementException("nothing is heard at this place");
        }
        if (what < 0 || what > 4) {
            throw new IllegalArgumentException("there is no such number of what is heard");
        }
        return Sound.number(now.sounds.at(index), what);
    }

    public int ways(boolean isAgain) {
        letters.load(now.sounds);
        return isAgain ? letters.waysFromEnd(now.words) : letters.waysFromBeginning(now.words);
    }

    public int reading(int place) throws NoSuchElementException {
        letters.load(now.sounds);
        int line = letters.lineAt(now.words, place);
        if (line < 0) {
            throw new NoSuchElementException("no line is read at this place");
        }
        return line;
    }

    public int soonest(int line) throws IndexOutOfBoundsException, NoSuchElementException {
        if (!isLine(line)) {
            throw new IndexOutOfBoundsException("there is no such line");
        }
        if (now.words.at(line) == 0) {
            throw new NoSuchElementException("the line has no sign");
        }
        return now.hoursToWait(line);
    }

    public int ranked(int measure, int place) throws IllegalArgumentException, NoSuchElementException {
        if (measure < 0 || measure > 2) {
            throw new IllegalArgumentException("there is no such measure");
        }
        if (!isLine(place)) {
            throw new NoSuchElementException("there is no such place");
        }
        return lineRanked(measure == 0 ? now.priorities : measure == 1 ? now.steam : now.passes, place);
    }

    public boolean isRight() {
        letters.load(now.sounds);
        int ways = letters.waysFromBeginning(now.words);
        return ways == letters.waysFromEnd(now.words)
                && (ways <= 1 || !Signs.areClear(now.words))
                && Signs.areDistinct(now.words)
                && areFreeWordsRight();
    }

    // ---- lines of text and accounts

    public int text(int line) throws IndexOutOfBoundsException {
        if (!isLine(line)) {
            throw new IndexOutOfBoundsException("there is no such line");
        }
        written.setLength(0);
        writeLine(line);
        return written.length();
    }

    public int strip() {
        written.setLength(0);
        for (int i = 0; i < now.sounds.size(); i++) {
            writeWord(Sound.word(now.sounds.at(i)));
        }
        return written.length();
    }

    public char character(int index) throws IndexOutOfBoundsException {
        if (index < 0 || index >= written.length()) {
            throw new IndexOutOfBoundsException("there is no such index");
        }
        return written.charAt(index);
    }

    public int refusal(boolean isDetail) throws IllegalStateException {
        if (refusedFor == 0) {
            throw new IllegalStateException("nothing was refused");
        }
        return isDetail ? refusedDetail : refusedFor;
    }

    public int account(int what) throws IllegalArgumentException {
        if (what < 0 || what > 15) {
            throw new IllegalArgumentException("there is no such account");
        }
        if (what == 14) {
            return input.size();
        }
        return what == 15 ? history.size() : now.accountOf(what);
    }

    public double meanLength() throws ArithmeticException {
        int signs = Signs.number(now.words);
        if (signs == 0) {
            throw new ArithmeticException("there are no signs");
        }
        return (double) Signs.sumOfLengths(now.words) / (double) signs;
    }

    public float lieShare() throws ArithmeticException {
        if (now.whistles == 0) {
            throw new ArithmeticException("there were no whistles");
        }
        return (float) now.lies.total() / (float) now.whistles;
    }

    // ---- input

    public int append(int packed) throws IllegalArgumentException, IllegalStateException {
        int more = 0;
        for (int shift = 24; shift >= 0; shift -= 8) {
            int code = packed >>> shift & 255;
            if (code != 0 && (code < 32 || code > 126)) {
                throw new IllegalArgumentException("there is no such character");
            }
            more += code == 0 ? 0 : 1;
        }
        if (input.size() + more > MOST_CHARACTERS) {
            throw new IllegalStateException("there are too many characters");
        }
        input.addAll(packed);
        return input.size();
    }

    public int read() throws IllegalArgumentException, UnsupportedOperationException {
        boolean isFormed = input.parse();
        input.empty();
        if (!isFormed) {
            malformedAt = input.position();
            throw new IllegalArgumentException("the input is malformed");
        }
        before.copyFrom(now);
        for (int i = 0; i < input.orders(); i++) {
            if (faultOfOrder(i) != NO_FAULT) {
                now.copyFrom(before);
                refusedOrder = i;
                throw new UnsupportedOperationException("an order is refused");
            }
            carryOut(i);
        }
        history.push(before);
        return input.orders();
    }

    public int errorPosition() throws NoSuchElementException {
        if (malformedAt < 0) {
            throw new NoSuchElementException("no input was malformed");
        }
        return malformedAt;
    }

    public int refusedItem() throws NoSuchElementException {
        if (refusedOrder < 0) {
            throw new NoSuchElementException("no input was refused");
        }
        return refusedOrder;
    }

    // ---- undo and snapshot

    public int undo() throws IllegalStateException {
        if (history.size() == 0) {
            throw new IllegalStateException("no change can be undone");
        }
        history.pop(now);
        return history.size();
    }

    public int snapshot() {
        saved.copyFrom(now);
        isSaved = true;
        return Signs.number(now.words);
    }

    public int restore() throws IllegalStateException {
        if (!isSaved) {
            throw new IllegalStateException("there is no snapshot");
        }
        now.copyFrom(saved);
        history.forget();
        return Signs.number(now.words);
    }

    // ---- what a change may be refused for

    private void startChange(int fault) {
        if (fault == FAULT_OF_INDEX) {
            throw new IndexOutOfBoundsException("there is no such line or platform");
        }
        if (fault == FAULT_OF_ARGUMENT) {
            throw new IllegalArgumentException("a number is not allowed");
        }
        if (fault == FAULT_REFUSED) {
            throw new UnsupportedOperationException("the change is refused");
        }
        history.push(now);
    }

    private int refuse(int reason, int detail) {
        refusedFor = reason;
        refusedDetail = detail;
        return FAULT_REFUSED;
    }

    private int faultOfSign(int line, int length, int bits) {
        if (!isLine(line)) {
            return FAULT_OF_INDEX;
        }
        if (!isLength(length) || bits < 0 || bits > Word.mask(length)) {
            return FAULT_OF_ARGUMENT;
        }
        int owner = Signs.owner(now.words, Word.of(length, bits));
        return owner >= 0 ? refuse(HAS_THIS_SIGN, owner) : NO_FAULT;
    }

    private int faultOfUnsign(int line) {
        if (!isLine(line)) {
            return FAULT_OF_INDEX;
        }
        return faultOfNoSign(line);
    }

    private int faultOfPriority(int line, int priority) {
        if (!isLine(line)) {
            return FAULT_OF_INDEX;
        }
        if (priority < 0 || priority > HIGHEST_PRIORITY) {
            return FAULT_OF_ARGUMENT;
        }
        return now.priorities.at(line) == priority ? refuse(IS_SO, priority) : NO_FAULT;
    }

    private int faultOfPlatform(int platform, int delay, int lines) {
        if (!isPlatform(platform)) {
            return FAULT_OF_INDEX;
        }
        if (delay < 0 || delay > LONGEST_DELAY || lines < 0 || lines > ALL_LINES) {
            return FAULT_OF_ARGUMENT;
        }
        return NO_FAULT;
    }

    private int faultOfWhistle(int line) {
        if (!isLine(line)) {
            return FAULT_OF_INDEX;
        }
        return faultOfBlow(line, line);
    }

    private int faultOfLie(int line, int as) {
        if (!isLine(line) || !isLine(as)) {
            return FAULT_OF_INDEX;
        }
        if (line == as) {
            return FAULT_OF_ARGUMENT;
        }
        return faultOfBlow(line, as);
    }

    private int faultOfBlow(int line, int told) {
        int fault = faultOfNoSign(told);
        if (fault == NO_FAULT) {
            fault = faultOfMuted(line);
        }
        if (fault == NO_FAULT && now.hasWhistled(line)) {
            fault = refuse(HAS_WHISTLED, now.hours);
        }
        int lacking = now.steamToBlow(line, told) - now.steam.at(line);
        if (fault == NO_FAULT && lacking > 0) {
            fault = refuse(TOO_LITTLE_STEAM, lacking);
        }
        return fault;
    }

    private int faultOfExpose(int line) {
        if (!isLine(line)) {
            return FAULT_OF_INDEX;
        }
        return now.indexOfLie(line) < 0 ? refuse(NO_LIE, now.numberHeard()) : NO_FAULT;
    }

    private int faultOfMute(int line, int hours) {
        if (!isLine(line)) {
            return FAULT_OF_INDEX;
        }
        if (hours < 1 || hours > LONGEST_MUTE) {
            return FAULT_OF_ARGUMENT;
        }
        return faultOfMuted(line);
    }

    private int faultOfFine(int line) {
        if (!isLine(line)) {
            return FAULT_OF_INDEX;
        }
        if (now.mutes.at(line) == 0) {
            return refuse(NOT_MUTED, now.coins.at(line));
        }
        int lacking = now.fineOf(line) - now.coins.at(line);
        return lacking > 0 ? refuse(TOO_FEW_COINS, lacking) : NO_FAULT;
    }

    private int faultOfNoSign(int line) {
        return now.words.at(line) == 0 ? refuse(NO_SIGN, Signs.number(now.words)) : NO_FAULT;
    }

    private int faultOfMuted(int line) {
        int hours = now.mutes.at(line);
        return hours > 0 ? refuse(IS_MUTED, hours) : NO_FAULT;
    }

    // ---- the orders of an input

    private int faultOfOrder(int order) {
        int line = input.line(order);
        int second = input.second(order);
        switch (input.kind(order)) {
            case 's':
                return faultOfSign(line, Word.length(second), Word.bits(second));
            case 'u':
                return faultOfUnsign(line);
            case 'p':
                return faultOfPriority(line, second);
            case 'w':
                return faultOfWhistle(line);
            case 'l':
                return faultOfLie(line, second);
            case 'x':
                return faultOfExpose(line);
            case 'm':
                return faultOfMute(line, second);
            case 'f':
                return faultOfFine(line);
            default:
                return NO_FAULT;
        }
    }

    private void carryOut(int order) {
        int line = input.line(order);
        int second = input.second(order);
        switch (input.kind(order)) {
            case 's':
                now.giveSign(line, second);
                break;
            case 'u':
                now.takeSign(line);
                break;
            case 'p':
                now.givePriority(line, second);
                break;
            case 'w':
                now.blow(line, line);
                break;
            case 'l':
                now.blow(line, second);
                break;
            case 'x':
                now.exposeLiar(line);
                break;
            case 'm':
                now.silence(line, second);
                break;
            case 'f':
                now.payFine(line);
                break;
            default:
                now.endHour();
                break;
        }
    }

    // ---- small questions

    private static boolean isLine(int line) {
        return line >= 0 && line < LINES;
    }

    private static boolean isPlatform(int platform) {
        return platform >= 0 && platform < PLATFORMS;
    }

    private static boolean isLength(int length) {
        return length >= 1 && length <= LONGEST_WORD;
    }

    private static int lineRanked(Row measures, int place) {
        int ranked = -1;
        for (int line = 0; line < LINES; line++) {
            if (numberAhead(measures, line) == place) {
                ranked = line;
            }
        }
        return ranked;
    }

    private static int numberAhead(Row measures, int line) {
        int ahead = 0;
        for (int other = 0; other < LINES; other++) {
            int more = measures.at(other) - measures.at(line);
            if (more > 0 || more == 0 && other < line) {
                ahead++;
            }
        }
        return ahead;
    }

    private boolean areFreeWordsRight() {
        for (int length = 1; length <= LONGEST_WORD; length++) {
            if (Signs.freeByWords(now.words, length) != Signs.freeByBars(now.words, length)) {
                return false;
            }
        }
        return true;
    }

    private void writeLine(int line) {
        written.append(line);
        if (now.words.at(line) != 0) {
            written.append(':');
            writeWord(now.words.at(line));
        }
        written.append('/').append(now.priorities.at(line));
        written.append('*').append(now.steam.at(line));
        if (now.mutes.at(line) > 0) {
            written.append('!').append(now.mutes.at(line));
        }
    }

    private void writeWord(int word) {
        for (int place = 0; place < Word.length(word); place++) {
            written.append(Word.letter(word, place) == 1 ? 'l' : 's');
        }
    }

    /** A row of numbers with a limit, of which no use can fail: outside of it stands 0. */
    private static final class Row {
        private final int[] items;
        private int size = 0;

        Row(int limit) {
            items = new int[limit < 0 ? 0 : limit];
        }

        int size() {
            return size;
        }

        int at(int index) {
            return index >= 0 && index < size && index < items.length ? items[index] : 0;
        }

        void put(int index, int number) {
            if (index >= 0 && index < size && index < items.length) {
                items[index] = number;
            }
        }

        void raise(int index, int by) {
            put(index, at(index) + by);
        }

        void add(int number) {
            if (size >= 0 && size < items.length) {
                items[size] = number;
                size++;
            }
        }

        void fill(int newSize, int number) {
            size = Math.max(0, Math.min(newSize, items.length));
            for (int i = 0; i < size && i < items.length; i++) {
                items[i] = number;
            }
        }

        void shorten(int newSize) {
            size = Math.max(0, Math.min(newSize, size));
        }

        void copyFrom(Row other) {
            size = Math.min(other.size(), items.length);
            for (int i = 0; i < size && i < items.length; i++) {
                items[i] = other.at(i);
            }
        }

        int total() {
            int total = 0;
            for (int i = 0; i < size && i < items.length; i++) {
                total += items[i];
            }
            return total;
        }

        int numberAboveZero() {
            int number = 0;
            for (int i = 0; i < size && i < items.length; i++) {
                if (items[i] > 0) {
                    number++;
                }
            }
            return number;
        }
    }

    /** Words as numbers: 64 times the length, and the bits; 0 stands for no word. */
    private static final class Word {
        static int of(int length, int bits) {
            return length << 6 | bits;
        }

        static int length(int word) {
            return word >> 6;
        }

        static int bits(int word) {
            return word & 63;
        }

        static int mask(int length) {
            return (1 << length) - 1;
        }

        static int letter(int word, int place) {
            return bits(word) >> place & 1;
        }

        static int steam(int word) {
            return length(word) + Integer.bitCount(bits(word));
        }

        static boolean begins(int one, int other) {
            return length(one) <= length(other) && (bits(other) & mask(length(one))) == bits(one);
        }

        static int cut(int word, int most) {
            return length(word) <= most ? word : of(most, bits(word) & mask(most));
        }
    }

    /**
     * Whistles and echoes as numbers, so that a state is copied without making objects: the line
     * that is told, that which whistled, 1 more than the platform, the word, the hours in which an
     * echo comes, and whether a lie was exposed.
     */
    private static final class Sound {
        private static final int AN_HOUR = 1 << 18;
        private static final int EXPOSED = 1 << 21;

        static int of(int told, int whistler, int word) {
            return told | whistler << 3 | word << 9;
        }

        static int echo(int whistle, int platform, int delay) {
            return whistle | platform + 1 << 6 | delay * AN_HOUR;
        }

        static int told(int sound) {
            return sound & 7;
        }

        static int whistler(int sound) {
            return sound >> 3 & 7;
        }

        static int echoer(int sound) {
            return (sound >> 6 & 7) - 1;
        }

        static int word(int sound) {
            return sound >> 9 & 511;
        }

        static int hoursToCome(int sound) {
            return sound >> 18 & 7;
        }

        static int anHourLater(int sound) {
            return sound - AN_HOUR;
        }

        static boolean isExposed(int sound) {
            return (sound & EXPOSED) != 0;
        }

        static int asExposed(int sound) {
            return sound | EXPOSED;
        }

        static int number(int sound, int what) {
            switch (what) {
                case 0:
                    return told(sound);
                case 1:
                    return whistler(sound);
                case 2:
                    return echoer(sound);
                case 3:
                    return Word.length(word(sound));
                default:
                    return Word.bits(word(sound));
            }
        }
    }

    /** Questions about the signs of all lines. */
    private static final class Signs {
        static int number(Row words) {
            return words.numberAboveZero();
        }

        static int sumOfLengths(Row words) {
            int sum = 0;
            for (int line = 0; line < LINES; line++) {
                sum += Word.length(words.at(line));
            }
            return sum;
        }

        static int owner(Row words, int word) {
            for (int line = 0; line < LINES; line++) {
                if (words.at(line) == word) {
                    return line;
                }
            }
            return -1;
        }

        static int standing(Row words, int one, int other) {
            int sign = words.at(one);
            int otherSign = words.at(other);
            if (sign == 0 || otherSign == 0) {
                return 0;
            }
            if (one == other) {
                return 3;
            }
            if (Word.begins(sign, otherSign)) {
                return 1;
            }
            return Word.begins(otherSign, sign) ? 2 : 0;
        }

        static boolean areClear(Row words) {
            for (int one = 0; one < LINES; one++) {
                for (int other = 0; other < one; other++) {
                    if (standing(words, one, other) != 0) {
                        return false;
                    }
                }
            }
            return true;
        }

        static boolean areDistinct(Row words) {
            for (int line = 0; line < LINES; line++) {
                if (words.at(line) != 0 && owner(words, words.at(line)) != line) {
                    return false;
                }
            }
            return true;
        }

        static int freeByWords(Row words, int length) {
            int free = 0;
            int all = 1 << length;
            for (int bits = 0; bits < all; bits++) {
                if (isFree(words, Word.of(length, bits))) {
                    free++;
                }
            }
            return free;
        }

        private static boolean isFree(Row words, int word) {
            for (int line = 0; line < LINES; line++) {
                int sign = words.at(line);
                if (sign != 0 && (Word.begins(sign, word) || Word.begins(word, sign))) {
                    return false;
                }
            }
            return true;
        }

        static int freeByBars(Row words, int length) {
            int free = 1 << length;
            for (int line = 0; line < LINES; line++) {
                int cut = Word.cut(words.at(line), length);
                if (cut != 0 && !isBarredByAnother(words, line, length)) {
                    free -= 1 << length - Word.length(cut);
                }
            }
            return free;
        }

        /** What two signs bar lies within one another or apart, so each word is taken out once. */
        private static boolean isBarredByAnother(Row words, int line, int length) {
            int cut = Word.cut(words.at(line), length);
            for (int other = 0; other < LINES; other++) {
                int otherCut = Word.cut(words.at(other), length);
                boolean isAhead = otherCut != cut || other < line;
                if (otherCut != 0 && isAhead && Word.begins(otherCut, cut)) {
                    return true;
                }
            }
            return false;
        }
    }

    /** The letters that are heard in an hour, and the ways in which they can be read. */
    private static final class Strip {
        private final Row letters = new Row(MOST_LETTERS);
        private final Row counts = new Row(MOST_LETTERS + 1);

        void load(Row sounds) {
            letters.fill(0, 0);
            for (int i = 0; i < sounds.size(); i++) {
                int word = Sound.word(sounds.at(i));
                for (int place = 0; place < Word.length(word); place++) {
                    letters.add(Word.letter(word, place));
                }
            }
        }

        int waysFromBeginning(Row words) {
            counts.fill(letters.size() + 1, 0);
            counts.put(0, 1);
            int latest = 0;
            for (int end = 1; end <= letters.size(); end++) {
                latest = latest >> 1 | letters.at(end - 1) << LONGEST_WORD - 1;
                counts.put(end, waysTo(words, end, latest));
            }
            return counts.at(letters.size());
        }

        /** The latest letters, up to six, stand in the high bits, so that a word's first letter gets to bit 0. */
        private int waysTo(Row words, int end, int latest) {
            int ways = 0;
            for (int line = 0; line < LINES; line++) {
                int sign = words.at(line);
                int length = Word.length(sign);
                if (sign != 0 && length <= end && latest >> LONGEST_WORD - length == Word.bits(sign)) {
                    ways += counts.at(end - length);
                }
            }
            return Math.min(ways, MOST_WAYS);
        }

        int waysFromEnd(Row words) {
            counts.fill(letters.size() + 1, 0);
            counts.put(letters.size(), 1);
            int coming = 0;
            for (int start = letters.size() - 1; start >= 0; start--) {
                coming = (coming << 1 | letters.at(start)) & Word.mask(LONGEST_WORD);
                counts.put(start, waysFrom(words, start, coming));
            }
            return counts.at(0);
        }

        private int waysFrom(Row words, int start, int coming) {
            int ways = 0;
            for (int line = 0; line < LINES; line++) {
                int sign = words.at(line);
                if (isNext(sign, start, coming)) {
                    ways += counts.at(start + Word.length(sign));
                }
            }
            return Math.min(ways, MOST_WAYS);
        }

        private boolean isNext(int sign, int start, int coming) {
            int length = Word.length(sign);
            return sign != 0 && start + length <= letters.size() && (coming & Word.mask(length)) == Word.bits(sign);
        }

        int lineAt(Row words, int place) {
            if (waysFromEnd(words) == 0) {
                return -1;
            }
            int start = 0;
            for (int read = 0; read < letters.size() && start < letters.size(); read++) {
                int line = firstLine(words, start);
                if (line < 0 || read == place) {
                    return line;
                }
                start += Word.length(words.at(line));
            }
            return -1;
        }

        /** Counts on waysFromEnd: only a line after which the rest can be read is taken. */
        private int firstLine(Row words, int start) {
            int coming = 0;
            for (int ahead = LONGEST_WORD - 1; ahead >= 0; ahead--) {
                coming = coming << 1 | letters.at(start + ahead);
            }
            for (int line = 0; line < LINES; line++) {
                int sign = words.at(line);
                if (isNext(sign, start, coming) && counts.at(start + Word.length(sign)) > 0) {
                    return line;
                }
            }
            return -1;
        }
    }

    /** The input buffer, and the orders that were found in it. */
    private static final class Input {
        private final Row characters = new Row(MOST_CHARACTERS);
        private final Row kinds = new Row(MOST_CHARACTERS);
        private final Row lines = new Row(MOST_CHARACTERS);
        private final Row seconds = new Row(MOST_CHARACTERS);
        private int position = 0;
        private int line = 0;
        private int second = 0;

        int size() {
            return characters.size();
        }

        void empty() {
            characters.fill(0, 0);
        }

        void addAll(int packed) {
            for (int shift = 24; shift >= 0; shift -= 8) {
                int code = packed >>> shift & 255;
                if (code != 0) {
                    characters.add(code);
                }
            }
        }

        int position() {
            return position;
        }

        int orders() {
            return kinds.size();
        }

        int kind(int order) {
            return kinds.at(order);
        }

        int line(int order) {
            return lines.at(order);
        }

        int second(int order) {
            return seconds.at(order);
        }

        /** Tells whether the input is formed well; if not, the position is that of the error. */
        boolean parse() {
            position = 0;
            kinds.fill(0, 0);
            lines.fill(0, 0);
            seconds.fill(0, 0);
            boolean isFormed = parseOrder();
            for (int more = 0; more < MOST_CHARACTERS && isFormed && position < size(); more++) {
                isFormed = parseSign(';') && parseOrder();
            }
            return isFormed;
        }

        private boolean parseOrder() {
            int kind = characters.at(position);
            String shape = shapeOf(kind);
            if (shape.isEmpty()) {
                return false;
            }
            line = 0;
            second = 0;
            for (int i = 0; i < shape.length(); i++) {
                if (!parsePart(shape.charAt(i))) {
                    return false;
                }
            }
            kinds.add(kind);
            lines.add(line);
            seconds.add(second);
            return true;
        }

        /** In a shape L is a line, D another digit, and W a word; the rest stands for itself. */
        private static String shapeOf(int kind) {
            switch (kind) {
                case 's':
                    return "sL:W";
                case 'u':
                    return "uL";
                case 'p':
                    return "pL=D";
                case 'w':
                    return "wL";
                case 'l':
                    return "lL>D";
                case 'x':
                    return "xL";
                case 'm':
                    return "mL:D";
                case 'f':
                    return "fL";
                case 'h':
                    return "h";
                default:
                    return "";
            }
        }

        private boolean parsePart(int part) {
            switch (part) {
                case 'L':
                    line = characters.at(position) - '0';
                    return parseDigit();
                case 'D':
                    second = characters.at(position) - '0';
                    return parseDigit();
                case 'W':
                    return parseWord();
                default:
                    return parseSign(part);
            }
        }

        private boolean parseSign(int sign) {
            if (characters.at(position) != sign) {
                return false;
            }
            position++;
            return true;
        }

        private boolean parseDigit() {
            if (characters.at(position) < '0' || characters.at(position) > '9') {
                return false;
            }
            position++;
            return true;
        }

        private boolean parseWord() {
            int length = 0;
            int bits = 0;
            while (length < LONGEST_WORD && isLetter(characters.at(position))) {
                bits |= characters.at(position) == 'l' ? 1 << length : 0;
                length++;
                position++;
            }
            second = Word.of(length, bits);
            return length > 0;
        }

        private static boolean isLetter(int code) {
            return code == 'l' || code == 's';
        }
    }

    /** Everything that changes can change. */
    private static final class State {
        final Row words = new Row(LINES);
        final Row priorities = new Row(LINES);
        final Row steam = new Row(LINES);
        final Row coins = new Row(LINES);
        final Row mutes = new Row(LINES);
        final Row passes = new Row(LINES);
        final Row lies = new Row(LINES);
        final Row exposures = new Row(LINES);
        final Row delays = new Row(PLATFORMS);
        final Row sets = new Row(PLATFORMS);
        final Row echoed = new Row(PLATFORMS);
        // All sounds of this hour: exposed lies are heard no more, but their letters are needed.
        final Row sounds = new Row(MOST_SOUNDS);
        // In the order of the whistles, so that those due in one hour need no sorting.
        final Row echoes = new Row(MOST_ECHOES);
        int hours = 0;
        int whistles = 0;
        int waysToEchoes = 0;
        int finesPaid = 0;

        State() {
            reset();
        }

        void reset() {
            words.fill(LINES, 0);
            priorities.fill(LINES, 0);
            steam.fill(LINES, FIRST_STEAM);
            coins.fill(LINES, FIRST_COINS);
            mutes.fill(LINES, 0);
            passes.fill(LINES, 0);
            lies.fill(LINES, 0);
            exposures.fill(LINES, 0);
            delays.fill(PLATFORMS, 0);
            sets.fill(PLATFORMS, 0);
            echoed.fill(PLATFORMS, 0);
            sounds.fill(0, 0);
            echoes.fill(0, 0);
            hours = 0;
            whistles = 0;
            waysToEchoes = 0;
            finesPaid = 0;
        }

        void copyFrom(State other) {
            words.copyFrom(other.words);
            priorities.copyFrom(other.priorities);
            steam.copyFrom(other.steam);
            coins.copyFrom(other.coins);
            mutes.copyFrom(other.mutes);
            passes.copyFrom(other.passes);
            lies.copyFrom(other.lies);
            exposures.copyFrom(other.exposures);
            delays.copyFrom(other.delays);
            sets.copyFrom(other.sets);
            echoed.copyFrom(other.echoed);
            sounds.copyFrom(other.sounds);
            echoes.copyFrom(other.echoes);
            hours = other.hours;
            whistles = other.whistles;
            waysToEchoes = other.waysToEchoes;
            finesPaid = other.finesPaid;
        }

        int giveSign(int line, int word) {
            words.put(line, word);
            return Word.steam(word);
        }

        int takeSign(int line) {
            words.put(line, 0);
            return Signs.number(words);
        }

        int givePriority(int line, int priority) {
            int old = priorities.at(line);
            priorities.put(line, priority);
            return old;
        }

        int tellPlatform(int platform, int delay, int lines) {
            delays.put(platform, delay);
            sets.put(platform, lines);
            return delays.numberAboveZero();
        }

        /** A line that tells of another one lies. */
        int blow(int line, int told) {
            steam.raise(line, -steamToBlow(line, told));
            whistles++;
            if (told != line) {
                lies.raise(line, 1);
            }
            int whistle = Sound.of(told, line, words.at(told));
            sounds.add(whistle);
            for (int platform = 0; platform < PLATFORMS; platform++) {
                if (delays.at(platform) > 0 && (sets.at(platform) >> line & 1) == 1) {
                    echoes.add(Sound.echo(whistle, platform, delays.at(platform)));
                }
            }
            return steam.at(line);
        }

        int steamToBlow(int line, int told) {
            int once = Word.steam(words.at(told));
            return line == told ? once : 2 * once;
        }

        int exposeLiar(int line) {
            int index = indexOfLie(line);
            sounds.put(index, Sound.asExposed(sounds.at(index)));
            exposures.raise(line, 1);
            mutes.raise(line, HOURS_FOR_A_LIE);
            return mutes.at(line);
        }

        int silence(int line, int forHours) {
            mutes.put(line, forHours);
            return mutes.numberAboveZero();
        }

        int fineOf(int line) {
            return FINE_AN_HOUR * mutes.at(line);
        }

        int payFine(int line) {
            int paid = fineOf(line);
            coins.raise(line, -paid);
            finesPaid += paid;
            mutes.put(line, 0);
            return coins.at(line);
        }

        int endHour() {
            int winner = wayGoesTo();
            if (winner == ECHO_HEARD) {
                waysToEchoes++;
            } else if (winner != NOTHING_HEARD) {
                passes.raise(winner, 1);
                coins.raise(winner, COINS_FOR_PASSING);
            }
            for (int line = 0; line < LINES; line++) {
                rest(line);
            }
            hours++;
            hearEchoes();
            return winner;
        }

        private void rest(int line) {
            if (mutes.at(line) > 0) {
                mutes.raise(line, -1);
            } else {
                steam.put(line, Math.min(MOST_STEAM, steam.at(line) + STEAM_AN_HOUR));
            }
        }

        private void hearEchoes() {
            sounds.fill(0, 0);
            int kept = 0;
            for (int i = 0; i < echoes.size(); i++) {
                int echo = Sound.anHourLater(echoes.at(i));
                if (Sound.hoursToCome(echo) == 0) {
                    sounds.add(echo);
                    echoed.raise(Sound.echoer(echo), 1);
                } else {
                    echoes.put(kept, echo);
                    kept++;
                }
            }
            echoes.shorten(kept);
        }

        int wayGoesTo() {
            int highest = -1;
            int winner = NOTHING_HEARD;
            for (int i = 0; i < sounds.size(); i++) {
                int sound = sounds.at(i);
                int priority = priorities.at(Sound.told(sound));
                if (!Sound.isExposed(sound) && priority > highest) {
                    highest = priority;
                    winner = Sound.echoer(sound) < 0 ? Sound.whistler(sound) : ECHO_HEARD;
                }
            }
            return winner;
        }

        int numberHeard() {
            int number = 0;
            for (int i = 0; i < sounds.size(); i++) {
                if (!Sound.isExposed(sounds.at(i))) {
                    number++;
                }
            }
            return number;
        }

        int indexOfHeard(int place) {
            int ahead = 0;
            for (int i = 0; i < sounds.size(); i++) {
                if (!Sound.isExposed(sounds.at(i))) {
                    if (ahead == place) {
                        return i;
                    }
                    ahead++;
                }
            }
            return -1;
        }

        private int indexOfWhistle(int line) {
            for (int i = 0; i < sounds.size(); i++) {
                if (Sound.echoer(sounds.at(i)) < 0 && Sound.whistler(sounds.at(i)) == line) {
                    return i;
                }
            }
            return -1;
        }

        boolean hasWhistled(int line) {
            return indexOfWhistle(line) >= 0;
        }

        /** Where the lie of a line stands that can still be exposed, -1 without one. */
        int indexOfLie(int line) {
            int index = indexOfWhistle(line);
            int sound = sounds.at(index);
            return index < 0 || Sound.told(sound) == line || Sound.isExposed(sound) ? -1 : index;
        }

        int hoursToWait(int line) {
            int needed = Word.steam(words.at(line));
            int held = steam.at(line);
            int muted = mutes.at(line);
            boolean isDone = hasWhistled(line);
            int waited = 0;
            while (waited < LONGEST_WAIT && (isDone || muted > 0 || held < needed)) {
                if (muted > 0) {
                    muted--;
                } else {
                    held = Math.min(MOST_STEAM, held + STEAM_AN_HOUR);
                }
                isDone = false;
                waited++;
            }
            return waited;
        }

        int numberOfLine(int line, int what) {
            switch (what) {
                case 0:
                    return Word.length(words.at(line));
                case 1:
                    return Word.bits(words.at(line));
                case 2:
                    return priorities.at(line);
                case 3:
                    return steam.at(line);
                case 4:
                    return coins.at(line);
                case 5:
                    return mutes.at(line);
                case 6:
                    return passes.at(line);
                case 7:
                    return lies.at(line);
                case 8:
                    return exposures.at(line);
                default:
                    return hasWhistled(line) ? 1 : 0;
            }
        }

        int numberOfPlatform(int platform, int what) {
            switch (what) {
                case 0:
                    return delays.at(platform);
                case 1:
                    return sets.at(platform);
                case 2:
                    return echoed.at(platform);
                default:
                    return echoesToCome(platform);
            }
        }

        private int echoesToCome(int platform) {
            int number = 0;
            for (int i = 0; i < echoes.size(); i++) {
                if (Sound.echoer(echoes.at(i)) == platform) {
                    number++;
                }
            }
            return number;
        }

        private int lettersOnStrip() {
            int number = 0;
            for (int i = 0; i < sounds.size(); i++) {
                number += Word.length(Sound.word(sounds.at(i)));
            }
            return number;
        }

        int accountOf(int what) {
            switch (what) {
                case 0:
                    return hours;
                case 1:
                    return Signs.number(words);
                case 2:
                    return mutes.numberAboveZero();
                case 3:
                    return numberHeard();
                case 4:
                    return lettersOnStrip();
                case 5:
                    return echoes.size();
                case 6:
                    return whistles;
                case 7:
                    return lies.total();
                case 8:
                    return exposures.total();
                case 9:
                    return passes.total();
                case 10:
                    return waysToEchoes;
                case 11:
                    return steam.total();
                case 12:
                    return coins.total();
                default:
                    return finesPaid;
            }
        }
    }

    /** The states before the latest changes, in a ring. */
    private static final class History {
        private final State[] states = new State[MOST_CHANGES];
        private int oldest = 0;
        private int size = 0;

        History() {
            for (int i = 0; i < states.length; i++) {
                states[i] = new State();
            }
        }

        int size() {
            return size;
        }

        void forget() {
            size = 0;
        }

        void push(State state) {
            if (size == MOST_CHANGES) {
                oldest = (oldest + 1) % MOST_CHANGES;
                size--;
            }
            State slot = slotAt(size);
            if (slot != null) {
                slot.copyFrom(state);
                size++;
            }
        }

        void pop(State state) {
            State slot = slotAt(size - 1);
            if (slot != null) {
                state.copyFrom(slot);
                size--;
            }
        }

        private State slotAt(int place) {
            int index = (oldest + place) % MOST_CHANGES;
            return index >= 0 && index < states.length ? states[index] : null;
        }
    }
}
