import java.util.NoSuchElementException;

/**
 * A mill that is heard. The document (DOC.md) tells the words in capitals and what each call promises.
 *
 * All rows are made once, with the object: no call makes an array or an object of its own.
 */
public final class RoarMill {
    public static final int NONE = -1;

    /** What certain() and swapped() answer when they were not refused but have nothing to tell. */
    private static final int NOT_ONE = -2;

    private static final int NO_SUCH = 1;
    private static final int BAD_NUMBER = 2;
    private static final int NO_ROOM = 3;
    private static final int FAULTY = 4;
    private static final int NOT_SO = 5;
    private static final int NO_WAY = 6;

    private static final int MOST_SIZES = 5;
    private static final int MOST_ORES = 4;
    private static final int MOST_PRICES = 6;
    private static final int MOST_RATE = 3;
    private static final int MOST_WATER = 3;
    private static final int MOST_TEARS = 3;
    private static final int QUARTERS = 4;
    private static final int MOST_FILL = 4;
    private static final int FILLS = MOST_FILL + 1;
    private static final int LINERS = QUARTERS + 1;
    private static final int STARTS = (MOST_TEARS + 1) * LINERS * FILLS;
    private static final int PROGRAM_HOURS = 12;
    private static final int GO_HOURS = 24;
    private static final int ALL_HOURS = 240;
    private static final int PLAN_HOURS = 5;
    private static final int FED_BYTES = 20;
    private static final int MARKS = 1000000;

    private static final int RATE = 0;
    private static final int WATER = 1;
    private static final int ORE = 2;
    private static final int SETTINGS = 3;

    private final Reader reader = new Reader();
    private Mill current = new Mill();
    private Mill spare = new Mill();
    private final Drum drum = new Drum();
    private final int[] settings = new int[SETTINGS];
    private final int[] course = new int[PROGRAM_HOURS * SETTINGS];
    private final Guesses guesses = new Guesses();
    private final Sight sight = new Sight();
    private final Planner planner = new Planner();
    private final Trial trial = new Trial();
    private final Load marked = new Load();
    private final Drum tried = new Drum();
    private final int[] stood = new int[ALL_HOURS];
    private int stoodCount;
    private int latestTrouble;
    private int latestFault;
    private int faultPlace;

    public RoarMill() {
        latestTrouble = 0;
    }

    // ---- the mill

    public int feed(int a, int b, int c, int d, int e) {
        if (!reader.hasRoomFor(FED_BYTES)) {
            return NONE;
        }
        reader.append(a);
        reader.append(b);
        reader.append(c);
        reader.append(d);
        reader.append(e);
        return reader.length;
    }

    public int mill(int n) {
        if (n < 0 || n > reader.length) {
            return refuse(BAD_NUMBER);
        }
        boolean sound = reader.read(n, spare);
        reader.length = 0;
        latestFault = reader.faultFound;
        faultPlace = reader.from;
        if (!sound) {
            return refuse(FAULTY);
        }
        Mill before = current;
        current = spare;
        spare = before;
        beginAnew();
        return accept(current.sizes);
    }

    public int fault() {
        return latestFault;
    }

    public int where() {
        return latestTrouble == FAULTY ? faultPlace : NONE;
    }

    // ---- hours

    public boolean set(int rate, int water, int ore) {
        if (!isOre(ore)) {
            return deny(NO_SUCH);
        }
        if (!isRate(rate) || !isWater(water)) {
            return deny(BAD_NUMBER);
        }
        settings[RATE] = rate;
        settings[WATER] = water;
        settings[ORE] = ore;
        return allow();
    }

    public boolean mend(int tears, boolean liner) {
        if (noMill()) {
            return deny(NO_SUCH);
        }
        if (tears < 0 || tears > MOST_TEARS) {
            return deny(BAD_NUMBER);
        }
        drum.tears = tears;
        if (liner) {
            drum.linerHours = 0;
        }
        return allow();
    }

    public int go(int n) {
        if (noMill()) {
            return refuse(NO_SUCH);
        }
        if (n < 1 || n > GO_HOURS) {
            return refuse(BAD_NUMBER);
        }
        if (drum.now + n > ALL_HOURS) {
            return refuse(NO_ROOM);
        }
        int running = 0;
        for (int i = 0; i < n; i++) {
            int hour = drum.now;
            drum.runHour(current, settings, 0);
            if (drum.stands) {
                noteStood(hour);
            } else {
                running++;
            }
        }
        return accept(running);
    }

    public int tons(int size, int what) {
        if (!isSize(size)) {
            return NONE;
        }
        switch (what) {
            case 0:
                return drum.load.held[size];
            case 1:
                return drum.load.back[size];
            case 2:
                return drum.load.passed[size];
            case 3:
                return drum.passedInAll[size];
            default:
                return NONE;
        }
    }

    public int state(int what) {
        switch (what) {
            case 0:
                return drum.bin;
            case 1:
                return drum.spilt;
            case 2:
                return drum.drawn;
            case 3:
                return drum.shortInAll;
            case 4:
                return drum.linerHours;
            case 5:
                return drum.tears;
            case 6:
                return drum.stands ? 1 : 0;
            case 7:
                return drum.now;
            case 8:
                return drum.full;
            case 9:
                return drum.effect;
            case 10:
                return drum.power;
            case 11:
                return drum.roar;
            case 12:
                return drum.cost;
            case 13:
                return drum.came;
            case 14:
                return settings[RATE];
            case 15:
                return settings[WATER];
            case 16:
                return settings[ORE];
            default:
                return NONE;
        }
    }

    // ---- what fits

    public boolean program(int hour, int rate, int water, int ore) {
        if (!isHour(hour) || !isOre(ore)) {
            return deny(NO_SUCH);
        }
        if (!isRate(rate) || !isWater(water)) {
            return deny(BAD_NUMBER);
        }
        course[hour * SETTINGS + RATE] = rate;
        course[hour * SETTINGS + WATER] = water;
        course[hour * SETTINGS + ORE] = ore;
        guesses.makeStale();
        sight.fresh = false;
        return allow();
    }

    public int seen(int hour, int what, int value, int off) {
        if (!isHour(hour) || !isHeard(what)) {
            return refuse(NO_SUCH);
        }
        if (value < 0 || value > 999999 || off < 0 || off > 999) {
            return refuse(BAD_NUMBER);
        }
        if (sight.isFilled()) {
            return refuse(NO_ROOM);
        }
        return accept(sight.note(hour, what, value, off));
    }

    public int forget() {
        return sight.drop();
    }

    public int fits() {
        if (noMill()) {
            return refuse(NO_SUCH);
        }
        return accept(findFits());
    }

    public int fitAt(int i, int what) {
        if (noMill() || what < 0 || what > 2 || i < 0 || i >= findFits()) {
            return refuse(NO_SUCH);
        }
        return accept(partOfStart(sight.fitOf(i), what));
    }

    public int certain(int what) {
        if (noMill() || what < 0 || what > 2) {
            return refuse(NO_SUCH);
        }
        int count = findFits();
        if (count == 0) {
            return refuse(NO_WAY);
        }
        int first = partOfStart(sight.fitOf(0), what);
        for (int i = 1; i < count; i++) {
            if (partOfStart(sight.fitOf(i), what) != first) {
                return accept(NOT_ONE);
            }
        }
        return accept(first);
    }

    public int guess(int tears, int liner, int fill, int hour, int what) {
        if (noMill() || !isHour(hour) || !isHeard(what)) {
            return refuse(NO_SUCH);
        }
        if (!isStart(tears, liner, fill)) {
            return refuse(BAD_NUMBER);
        }
        int start = startOf(tears, liner, fill);
        guesses.tellOne(current, course, start);
        return accept(guesses.toldOf(start, hour, what));
    }

    public int swapped() {
        if (noMill()) {
            return refuse(NO_SUCH);
        }
        if (findFits() > 0) {
            return refuse(NOT_SO);
        }
        for (int lesser = 0; lesser < PROGRAM_HOURS; lesser++) {
            for (int other = lesser + 1; other < PROGRAM_HOURS; other++) {
                if (sight.anyAgrees(guesses, lesser, other)) {
                    return accept(100 * lesser + other);
                }
            }
        }
        return accept(NOT_ONE);
    }

    // ---- plans

    public int plan(int n) {
        if (noMill()) {
            return refuse(NO_SUCH);
        }
        if (!isPlanLength(n)) {
            return refuse(BAD_NUMBER);
        }
        int cost = planner.findCheapest(current, drum, settings, n);
        return cost == NONE ? refuse(NO_WAY) : accept(cost);
    }

    public int rate(int i) {
        return planner.keptRate(i);
    }

    public int rule(int n) {
        if (noMill()) {
            return refuse(NO_SUCH);
        }
        if (!isPlanLength(n)) {
            return refuse(BAD_NUMBER);
        }
        planner.keepRule(current, drum, settings, n);
        return accept(planner.reached.cost - drum.cost);
    }

    public int lacks(int n) {
        if (noMill()) {
            return refuse(NO_SUCH);
        }
        if (!isPlanLength(n)) {
            return refuse(BAD_NUMBER);
        }
        planner.keepRule(current, drum, settings, n);
        return accept(planner.reached.shortInAll - drum.shortInAll);
    }

    // ---- tries

    public int number(boolean after, int v) {
        if (noMill()) {
            return refuse(NO_SUCH);
        }
        if (v < 0 || v > 999) {
            return refuse(BAD_NUMBER);
        }
        if (trial.isFilled(after)) {
            return refuse(NO_ROOM);
        }
        return accept(trial.add(after, v));
    }

    public int chance() {
        return trial.lacksRow() ? refuse(NOT_SO) : accept(trial.countNoLess());
    }

    public int splits() {
        return trial.lacksRow() ? refuse(NOT_SO) : accept(trial.countAll());
    }

    public int clear() {
        return trial.drop();
    }

    // ---- marks

    public int marks(int tears, int liner, int fill, int size, int hour, int by) {
        if (!isSize(size) || !isHour(hour) || !isHour(by)) {
            return refuse(NO_SUCH);
        }
        if (!isStart(tears, liner, fill) || by < hour) {
            return refuse(BAD_NUMBER);
        }
        tried.beginStart(current, startOf(tears, liner, fill));
        marked.makeEmpty();
        int passed = 0;
        for (int i = 0; i <= by; i++) {
            if (i == hour) {
                marked.held[size] = MARKS;
            }
            tried.runHour(current, course, i * SETTINGS);
            passed += leadMarks(course[i * SETTINGS + WATER]);
        }
        return accept(passed);
    }

    public int led(int i) throws NoSuchElementException {
        if (i < 0 || i >= stoodCount || i >= stood.length) {
            throw new NoSuchElementException("no such HOUR in which it stood");
        }
        return stood[i];
    }

    public int size(int what) {
        switch (what) {
            case 0:
                return current.sizes;
            case 1:
                return current.ores;
            case 2:
                return current.room;
            case 3:
                return current.loud;
            case 4:
                return Math.max(current.sieve, 0);
            case 5:
                return current.slips;
            case 6:
                return current.life;
            case 7:
                return current.binRoom;
            case 8:
                return current.draws;
            case 9:
                return current.priceCount;
            case 10:
                return sight.count;
            case 11:
                return reader.length;
            default:
                return NONE;
        }
    }

    public int trouble() {
        return latestTrouble;
    }

    // ---- what the calls share

    private int refuse(int why) {
        latestTrouble = why;
        return NONE;
    }

    private int accept(int answer) {
        latestTrouble = 0;
        return answer;
    }

    private boolean deny(int why) {
        latestTrouble = why;
        return false;
    }

    private boolean allow() {
        latestTrouble = 0;
        return true;
    }

    private boolean noMill() {
        return current.sizes == 0;
    }

    private boolean isSize(int size) {
        return size >= 0 && size < current.sizes && size < MOST_SIZES;
    }

    private boolean isOre(int ore) {
        return ore >= 0 && ore < current.ores;
    }

    /** ROAR and POWER are no SIZE's, so that without a MILL these two are there all the same. */
    private boolean isHeard(int what) {
        return what >= 0 && what < Guesses.FIRST_SAMPLE + current.sizes;
    }

    private static boolean isRate(int rate) {
        return rate >= 0 && rate <= MOST_RATE;
    }

    private static boolean isWater(int water) {
        return water >= 0 && water <= MOST_WATER;
    }

    private static boolean isHour(int hour) {
        return hour >= 0 && hour < PROGRAM_HOURS;
    }

    private static boolean isPlanLength(int n) {
        return n >= 1 && n <= PLAN_HOURS;
    }

    private static boolean isStart(int tears, int liner, int fill) {
        return tears >= 0 && tears <= MOST_TEARS && liner >= 0 && liner < LINERS && fill >= 0 && fill < FILLS;
    }

    /** The place of a START in the order by TEARS, liners, fills. */
    private static int startOf(int tears, int liner, int fill) {
        return (tears * LINERS + liner) * FILLS + fill;
    }

    private static int partOfStart(int start, int what) {
        if (what == 0) {
            return start / (LINERS * FILLS);
        }
        return what == 1 ? start / FILLS % LINERS : start % FILLS;
    }

    /** By long: a million MARKS times breaks times EFFECT is beyond an int. */
    private static int share(int amount, int times, int by) {
        return by > 0 ? (int) ((long) amount * times / by) : 0;
    }

    private void beginAnew() {
        drum.beginEmpty();
        settings[RATE] = 1;
        settings[WATER] = 1;
        settings[ORE] = 0;
        for (int i = 0; i < PROGRAM_HOURS; i++) {
            course[i * SETTINGS + RATE] = 1;
            course[i * SETTINGS + WATER] = 1;
            course[i * SETTINGS + ORE] = 0;
        }
        guesses.makeStale();
        sight.drop();
        trial.drop();
        planner.drop();
        stoodCount = 0;
    }

    private void noteStood(int hour) {
        if (stoodCount < stood.length) {
            stood[stoodCount] = hour;
            stoodCount++;
        }
    }

    private int findFits() {
        guesses.tellAll(current, course);
        return sight.findFits(guesses);
    }

    /** Leads the MARKS through the HOUR that was just tried; answers how many passed in it. */
    private int leadMarks(int water) {
        marked.takeBack();
        if (tried.stands) {
            return 0;
        }
        marked.breakUp(current, tried.effect);
        marked.sift(current, water, tried.tears);
        return sumOf(marked.passed);
    }

    private static int sumOf(int[] row) {
        int sum = 0;
        for (int i = 0; i < row.length; i++) {
            sum += row[i];
        }
        return sum;
    }

    private static void copyRow(int[] from, int[] to) {
        for (int i = 0; i < from.length && i < to.length; i++) {
            to[i] = from[i];
        }
    }

    private static void wipe(int[] row) {
        for (int i = 0; i < row.length; i++) {
            row[i] = 0;
        }
    }

    /** What a text tells. What was not told is 0 (sieve: NONE), so that no SIZES means no MILL. */
    private static final class Mill {
        int room;
        int loud;
        int sieve = NONE;
        int slips;
        int life;
        int binRoom;
        int draws;
        int sizes;
        int ores;
        int priceCount;
        final int[] prices = new int[MOST_PRICES];
        final int[] breaks = new int[MOST_SIZES];
        final int[] next = new int[MOST_SIZES];
        final int[] hard = new int[MOST_ORES];
        final int[] oreTons = new int[MOST_ORES * MOST_SIZES];

        void makeEmpty() {
            room = 0;
            loud = 0;
            sieve = NONE;
            slips = 0;
            life = 0;
            binRoom = 0;
            draws = 0;
            sizes = 0;
            ores = 0;
            priceCount = 0;
            wipe(prices);
            wipe(breaks);
            wipe(next);
            wipe(hard);
            wipe(oreTons);
        }

        boolean lacksLine() {
            return room == 0 || sieve == NONE || life == 0 || binRoom == 0 || priceCount == 0 || sizes < 2 || ores == 0;
        }

        int priceAt(int hour) {
            if (hour < 0 || priceCount < 1 || priceCount > MOST_PRICES) {
                return 0;
            }
            return prices[hour % priceCount];
        }

        int hardOf(int ore) {
            return ore >= 0 && ore < MOST_ORES ? hard[ore] : 0;
        }

        int tonsOf(int ore, int size) {
            if (ore < 0 || ore >= MOST_ORES || size < 0 || size >= MOST_SIZES) {
                return 0;
            }
            return oreTons[ore * MOST_SIZES + size];
        }
    }

    /** THE TAPE, and how a text on it becomes a MILL: token by token, up to the first FAULT. */
    private static final class Reader {
        private static final int TAPE_BYTES = 700;
        private static final int LONGEST_WORD = 8;
        private static final int LONGEST_WHOLE = 3;
        private static final int BLANK = 32;

        private static final int FORM = 1;
        private static final int NO_SIZE = 2;
        private static final int AGAIN = 3;
        private static final int BOUNDS = 4;
        private static final int MANY = 5;
        private static final int LACKS = 6;

        private static final int END = 0;
        private static final int NO_TOKEN = 1;
        private static final int WORD = 2;
        private static final int WHOLE = 3;
        private static final int SIGN = 4;

        final byte[] text = new byte[TAPE_BYTES];
        int length;
        int faultFound;
        /** Where the TOKEN begins; behind a FAULT, its place. */
        int from;
        private int end;
        private int behind;
        private int kind;
        private int value;
        private final long[] sizeNames = new long[MOST_SIZES];
        private final long[] oreNames = new long[MOST_ORES];

        boolean hasRoomFor(int bytes) {
            return length + bytes <= TAPE_BYTES;
        }

        void append(int four) {
            for (int shift = 24; shift >= 0 && length >= 0 && length < TAPE_BYTES; shift -= 8) {
                text[length] = (byte) (four >> shift);
                length++;
            }
        }

        boolean read(int bytes, Mill m) {
            m.makeEmpty();
            faultFound = 0;
            end = bytes;
            behind = 0;
            step();
            for (int lines = 0; lines <= TAPE_BYTES; lines++) {
                if (!readLine(m)) {
                    return false;
                }
                if (kind == END) {
                    return m.lacksLine() ? fail(LACKS) : true;
                }
                if (!isSign(';')) {
                    return fail(FORM);
                }
                step();
            }
            return fail(FORM);
        }

        private boolean fail(int number) {
            faultFound = number;
            return false;
        }

        private int byteAt(int i) {
            return i >= 0 && i < end && i < TAPE_BYTES ? text[i] : NONE;
        }

        private static boolean isLetter(int sign) {
            return sign >= 'a' && sign <= 'z';
        }

        private static boolean isDigit(int sign) {
            return sign >= '0' && sign <= '9';
        }

        private void step() {
            from = behind;
            while (from < end && byteAt(from) == BLANK) {
                from++;
            }
            behind = from;
            int sign = byteAt(from);
            if (from >= end) {
                kind = END;
            } else if (isLetter(sign)) {
                stepWord();
            } else if (isDigit(sign)) {
                stepWhole();
            } else {
                kind = sign == ';' || sign == ',' ? SIGN : NO_TOKEN;
                behind = from + 1;
            }
        }

        private void stepWord() {
            while (behind < end && isLetter(byteAt(behind))) {
                behind++;
            }
            kind = behind - from > LONGEST_WORD ? NO_TOKEN : WORD;
        }

        private void stepWhole() {
            value = 0;
            while (behind < end && isDigit(byteAt(behind))) {
                value = value * 10 + byteAt(behind) - '0';
                behind++;
            }
            kind = behind - from > LONGEST_WHOLE ? NO_TOKEN : WHOLE;
        }

        private boolean isSign(char sign) {
            return kind == SIGN && byteAt(from) == sign;
        }

        private boolean isWord(String word) {
            if (kind != WORD || behind - from != word.length()) {
                return false;
            }
            for (int i = 0; i < word.length(); i++) {
                if (byteAt(from + i) != word.charAt(i)) {
                    return false;
                }
            }
            return true;
        }

        private boolean isName() {
            return kind == WORD && !isWord("drum") && !isWord("sieve") && !isWord("liner") && !isWord("bin")
                && !isWord("price") && !isWord("size") && !isWord("ore");
        }

        /** Five bits a letter: the eight of the longest WORD fit into one long. */
        private long nameCode() {
            long code = 0;
            for (int i = from; i < behind; i++) {
                code = code * 32 + (byteAt(i) - 'a' + 1);
            }
            return code;
        }

        private static int placeOf(long code, long[] names, int count) {
            for (int i = 0; i < count && i < names.length; i++) {
                if (names[i] == code) {
                    return i;
                }
            }
            return NONE;
        }

        private boolean readLine(Mill m) {
            if (isWord("drum")) {
                return m.room > 0 ? fail(AGAIN) : readDrum(m);
            }
            if (isWord("sieve")) {
                return m.sieve != NONE ? fail(AGAIN) : readSieve(m);
            }
            if (isWord("liner")) {
                return m.life > 0 ? fail(AGAIN) : readLiner(m);
            }
            if (isWord("bin")) {
                return m.binRoom > 0 ? fail(AGAIN) : readBin(m);
            }
            if (isWord("price")) {
                return m.priceCount > 0 ? fail(AGAIN) : readPrices(m);
            }
            if (isWord("size")) {
                return m.sizes >= MOST_SIZES ? fail(MANY) : readSize(m, m.sizes);
            }
            if (isWord("ore")) {
                return m.ores >= MOST_ORES ? fail(MANY) : readOre(m, m.ores) && readTons(m, m.ores - 1);
            }
            return fail(FORM);
        }

        private boolean readDrum(Mill m) {
            step();
            if (!passWord("room") || !checkWhole(20, 999)) {
                return false;
            }
            m.room = value;
            step();
            if (!passWord("loud") || !checkWhole(10, 200)) {
                return false;
            }
            m.loud = value;
            step();
            return true;
        }

        private boolean readSieve(Mill m) {
            step();
            if (!isName()) {
                return fail(FORM);
            }
            int size = placeOf(nameCode(), sizeNames, m.sizes);
            if (size == NONE) {
                return fail(NO_SIZE);
            }
            m.sieve = size;
            step();
            if (!passWord("slips") || !checkWhole(0, 50)) {
                return false;
            }
            m.slips = value;
            step();
            return true;
        }

        private boolean readLiner(Mill m) {
            step();
            if (!checkWhole(1, 200)) {
                return false;
            }
            m.life = value;
            step();
            return true;
        }

        private boolean readBin(Mill m) {
            step();
            if (!checkWhole(1, 999)) {
                return false;
            }
            m.binRoom = value;
            step();
            if (!passWord("draws") || !checkWhole(0, 200)) {
                return false;
            }
            m.draws = value;
            step();
            return true;
        }

        private boolean readPrices(Mill m) {
            for (int i = 0; i <= MOST_PRICES; i++) {
                step();
                if (!checkWhole(0, 99)) {
                    return false;
                }
                if (i >= MOST_PRICES) {
                    return fail(MANY);
                }
                m.prices[i] = value;
                m.priceCount = i + 1;
                step();
                if (!isSign(',')) {
                    return true;
                }
            }
            return fail(MANY);
        }

        private boolean readSize(Mill m, int size) {
            step();
            if (!isName()) {
                return fail(FORM);
            }
            if (isTold(m)) {
                return fail(AGAIN);
            }
            if (size < 0 || size >= MOST_SIZES) {
                return fail(MANY);
            }
            sizeNames[size] = nameCode();
            m.sizes = size + 1;
            step();
            if (!isWord("breaks")) {
                return true;
            }
            step();
            if (!checkWhole(0, 100)) {
                return false;
            }
            m.breaks[size] = value;
            step();
            if (!passWord("next") || !checkWhole(0, 100)) {
                return false;
            }
            m.next[size] = value;
            step();
            return true;
        }

        private boolean readOre(Mill m, int ore) {
            step();
            if (!isName()) {
                return fail(FORM);
            }
            if (isTold(m)) {
                return fail(AGAIN);
            }
            if (ore < 0 || ore >= MOST_ORES) {
                return fail(MANY);
            }
            oreNames[ore] = nameCode();
            m.ores = ore + 1;
            step();
            if (!passWord("hard") || !checkWhole(1, 9)) {
                return false;
            }
            m.hard[ore] = value;
            step();
            return isWord("tons") ? true : fail(FORM);
        }

        private boolean readTons(Mill m, int ore) {
            int first = ore * MOST_SIZES;
            for (int i = 0; i <= MOST_SIZES; i++) {
                step();
                if (!checkWhole(0, 50)) {
                    return false;
                }
                if (i >= m.sizes || first < 0 || first + i >= m.oreTons.length) {
                    return fail(MANY);
                }
                m.oreTons[first + i] = value;
                step();
                if (!isSign(',')) {
                    return true;
                }
            }
            return fail(MANY);
        }

        private boolean passWord(String word) {
            if (!isWord(word)) {
                return fail(FORM);
            }
            step();
            return true;
        }

        private boolean checkWhole(int least, int most) {
            if (kind != WHOLE) {
                return fail(FORM);
            }
            return value < least || value > most ? fail(BOUNDS) : true;
        }

        private boolean isTold(Mill m) {
            long code = nameCode();
            return placeOf(code, sizeNames, m.sizes) != NONE || placeOf(code, oreNames, m.ores) != NONE;
        }
    }

    /** What is HELD, goes BACK and has just passed, by SIZES: of TONS, or of MARKS that share their way. */
    private static final class Load {
        final int[] held = new int[MOST_SIZES];
        final int[] back = new int[MOST_SIZES];
        final int[] passed = new int[MOST_SIZES];

        void makeEmpty() {
            wipe(held);
            wipe(back);
            wipe(passed);
        }

        void copyFrom(Load other) {
            copyRow(other.held, held);
            copyRow(other.back, back);
            copyRow(other.passed, passed);
        }

        void takeBack() {
            for (int i = 0; i < MOST_SIZES; i++) {
                held[i] += back[i];
                back[i] = 0;
            }
        }

        /** From the finer to the coarser: what has just broken does not break again in the same HOUR. */
        void breakUp(Mill m, int effect) {
            int last = Math.min(m.sizes, MOST_SIZES) - 1;
            for (int i = last - 1; i >= 0; i--) {
                int broken = share(held[i], m.breaks[i] * effect, 10000);
                int near = i + 2 > last ? broken : share(broken, m.next[i], 100);
                held[i] -= broken;
                held[i + 1] += near;
                if (i + 2 <= last) {
                    held[i + 2] += broken - near;
                }
            }
        }

        void sift(Mill m, int water, int tears) {
            int slipping = Math.min(tears * m.slips, 100);
            for (int i = 0; i < MOST_SIZES; i++) {
                int out = share(held[i], 20 + 10 * water, 100);
                held[i] -= out;
                passed[i] = i < m.sieve ? share(out, slipping, 100) : out;
                back[i] = out - passed[i];
            }
        }

        int digOut() {
            int dug = 0;
            for (int i = 0; i < MOST_SIZES; i++) {
                int part = Math.min(held[i], held[i] / 10 + 1);
                held[i] -= part;
                dug += part;
            }
            return dug;
        }
    }

    /** THE STATE, with what the latest HOUR told and what there was in all. */
    private static final class Drum {
        final Load load = new Load();
        final int[] passedInAll = new int[MOST_SIZES];
        int bin;
        int linerHours;
        int tears;
        boolean stands;
        int now;
        int full;
        int effect;
        int power;
        int roar;
        int shortNow;
        int shortInAll;
        int spilt;
        int drawn;
        int cost;
        int came;

        void beginEmpty() {
            load.makeEmpty();
            wipe(passedInAll);
            bin = 0;
            linerHours = 0;
            tears = 0;
            stands = false;
            now = 0;
            full = 0;
            effect = 0;
            power = 0;
            roar = 0;
            shortNow = 0;
            shortInAll = 0;
            spilt = 0;
            drawn = 0;
            cost = 0;
            came = 0;
        }

        void beginStart(Mill m, int start) {
            beginEmpty();
            tears = partOfStart(start, 0);
            linerHours = share(m.life, partOfStart(start, 1), QUARTERS);
            bin = m.binRoom / 2;
            int fill = partOfStart(start, 2);
            for (int i = 0; i < MOST_SIZES; i++) {
                load.held[i] = fill * m.tonsOf(0, i);
            }
        }

        void copyFrom(Drum other) {
            load.copyFrom(other.load);
            copyRow(other.passedInAll, passedInAll);
            bin = other.bin;
            linerHours = other.linerHours;
            tears = other.tears;
            stands = other.stands;
            now = other.now;
            full = other.full;
            effect = other.effect;
            power = other.power;
            roar = other.roar;
            shortNow = other.shortNow;
            shortInAll = other.shortInAll;
            spilt = other.spilt;
            drawn = other.drawn;
            cost = other.cost;
            came = other.came;
        }

        /** By the SETTINGS that begin at a place of a row. */
        void runHour(Mill m, int[] row, int at) {
            if (at < 0 || at + SETTINGS > row.length) {
                return;
            }
            if (!stands) {
                takeOre(m, row[at + RATE], row[at + ORE]);
            }
            load.takeBack();
            full = sumOf(load.held);
            stands = full > m.room;
            if (stands) {
                standStill();
            } else {
                effect = effectOf(m, row[at + ORE]);
                power = share(full, effect, 100);
                load.breakUp(m, effect);
                load.sift(m, row[at + WATER], tears);
            }
            fillBin(m);
            drawFromBin(m);
            roar = Math.max(m.loud - share(m.loud, full, m.room), 0);
            cost += power * m.priceAt(now);
            linerHours++;
            now++;
        }

        boolean wentWell() {
            return !stands && shortNow == 0;
        }

        private void takeOre(Mill m, int rate, int ore) {
            for (int i = 0; i < MOST_SIZES; i++) {
                int coming = rate * m.tonsOf(ore, i);
                load.held[i] += coming;
                came += coming;
            }
        }

        private void standStill() {
            spilt += load.digOut();
            wipe(load.passed);
            effect = 0;
            power = 0;
        }

        private int effectOf(Mill m, int ore) {
            int off = share(100, full, m.room) - 50;
            int byFull = 100 - Math.abs(off);
            int left = Math.max(m.life - linerHours, m.life / 2);
            int byLiner = share(byFull, left, m.life);
            return share(byLiner, 10, 9 + m.hardOf(ore));
        }

        private void fillBin(Mill m) {
            for (int i = 0; i < MOST_SIZES; i++) {
                bin += load.passed[i];
                passedInAll[i] += load.passed[i];
            }
            if (bin > m.binRoom) {
                spilt += bin - m.binRoom;
                bin = m.binRoom;
            }
        }

        private void drawFromBin(Mill m) {
            int taken = Math.min(bin, m.draws);
            bin -= taken;
            drawn += taken;
            shortNow = m.draws - taken;
            shortInAll += shortNow;
        }
    }

    /** What each START's GUESS tells; kept until THE PROGRAM or the MILL changes, for many calls ask for all. */
    private static final class Guesses {
        static final int FIRST_SAMPLE = 2;
        private static final int KINDS = FIRST_SAMPLE + MOST_SIZES;

        private final int[] told = new int[STARTS * PROGRAM_HOURS * KINDS];
        private final boolean[] known = new boolean[STARTS];
        private final Drum drum = new Drum();

        void makeStale() {
            for (int i = 0; i < STARTS; i++) {
                known[i] = false;
            }
        }

        void tellAll(Mill m, int[] course) {
            for (int i = 0; i < STARTS; i++) {
                tellOne(m, course, i);
            }
        }

        void tellOne(Mill m, int[] course, int start) {
            if (start < 0 || start >= STARTS || known[start]) {
                return;
            }
            drum.beginStart(m, start);
            for (int hour = 0; hour < PROGRAM_HOURS; hour++) {
                drum.runHour(m, course, hour * SETTINGS);
                int first = (start * PROGRAM_HOURS + hour) * KINDS;
                told[first] = drum.roar;
                told[first + 1] = drum.power;
                for (int i = 0; i < MOST_SIZES; i++) {
                    told[first + FIRST_SAMPLE + i] = drum.load.passed[i];
                }
            }
            known[start] = true;
        }

        int toldOf(int start, int hour, int what) {
            if (start < 0 || start >= STARTS || !isHour(hour) || what < 0 || what >= KINDS) {
                return 0;
            }
            return told[(start * PROGRAM_HOURS + hour) * KINDS + what];
        }
    }

    /** WHAT WAS SEEN, and the FITS of it; fresh as long as nothing came that could change them. */
    private static final class Sight {
        private static final int MOST_SEEN = 24;

        private final int[] hours = new int[MOST_SEEN];
        private final int[] kinds = new int[MOST_SEEN];
        private final int[] values = new int[MOST_SEEN];
        private final int[] offs = new int[MOST_SEEN];
        int count;
        private final int[] fitting = new int[STARTS];
        private int fitCount;
        boolean fresh;

        boolean isFilled() {
            return count >= MOST_SEEN;
        }

        int note(int hour, int what, int value, int off) {
            if (count >= 0 && count < MOST_SEEN) {
                hours[count] = hour;
                kinds[count] = what;
                values[count] = value;
                offs[count] = off;
                count++;
                fresh = false;
            }
            return count;
        }

        int drop() {
            int before = count;
            count = 0;
            fresh = false;
            return before;
        }

        int findFits(Guesses guesses) {
            if (!fresh) {
                fitCount = 0;
                for (int i = 0; i < STARTS && fitCount < STARTS; i++) {
                    if (agrees(guesses, i, 0, 0)) {
                        fitting[fitCount] = i;
                        fitCount++;
                    }
                }
                fresh = true;
            }
            return fitCount;
        }

        int fitOf(int i) {
            return i >= 0 && i < fitCount && i < STARTS ? fitting[i] : 0;
        }

        boolean anyAgrees(Guesses guesses, int lesser, int other) {
            for (int i = 0; i < STARTS; i++) {
                if (agrees(guesses, i, lesser, other)) {
                    return true;
                }
            }
            return false;
        }

        /** Whether a START agrees if the samples of two HOURS are told one for the other. */
        private boolean agrees(Guesses guesses, int start, int lesser, int other) {
            for (int i = 0; i < count && i < MOST_SEEN; i++) {
                boolean sample = kinds[i] >= Guesses.FIRST_SAMPLE;
                int hour = sample ? exchanged(hours[i], lesser, other) : hours[i];
                if (Math.abs(guesses.toldOf(start, hour, kinds[i]) - values[i]) > offs[i]) {
                    return false;
                }
            }
            return true;
        }

        private static int exchanged(int hour, int lesser, int other) {
            if (hour == lesser) {
                return other;
            }
            return hour == other ? lesser : hour;
        }
    }

    /** PLANS and THE RULE, on drums of its own. */
    private static final class Planner {
        /** The drum at a depth is as it is ahead of that HOUR. */
        private final Drum[] drums = new Drum[PLAN_HOURS + 1];
        private final int[] row = new int[SETTINGS];
        private final int[] rates = new int[PLAN_HOURS];
        private final int[] best = new int[PLAN_HOURS];
        private int bestCost;
        private boolean found;
        private final int[] kept = new int[PLAN_HOURS];
        private int keptHours;
        private final Drum attempt = new Drum();
        /** Where THE RULE has led. */
        final Drum reached = new Drum();

        Planner() {
            for (int i = 0; i <= PLAN_HOURS; i++) {
                drums[i] = new Drum();
            }
        }

        void drop() {
            keptHours = 0;
        }

        int keptRate(int i) {
            return i >= 0 && i < keptHours && i < PLAN_HOURS ? kept[i] : NONE;
        }

        /** Its COST; NONE if there is no way. */
        int findCheapest(Mill m, Drum from, int[] settings, int hours) {
            Drum first = drums[0];
            if (first == null) {
                return NONE;
            }
            first.copyFrom(from);
            copyRow(settings, row);
            found = false;
            search(this, m, 0, hours);
            if (!found) {
                return NONE;
            }
            copyRow(best, kept);
            keptHours = hours;
            return bestCost - from.cost;
        }

        /** By RATES upwards, and only a lesser COST wins: so of like ones the least RATES stay. */
        private static void search(Planner p, Mill m, int depth, int hours) {
            if (depth < 0 || depth > PLAN_HOURS) {
                return;
            }
            Drum here = p.drums[depth];
            if (here == null) {
                return;
            }
            if (depth >= hours || depth >= PLAN_HOURS) {
                p.keepBest(here.cost);
                return;
            }
            Drum there = p.drums[depth + 1];
            for (int rate = 0; rate <= MOST_RATE && there != null; rate++) {
                p.row[RATE] = rate;
                there.copyFrom(here);
                there.runHour(m, p.row, 0);
                if (there.wentWell() && (!p.found || there.cost < p.bestCost)) {
                    p.rates[depth] = rate;
                    search(p, m, depth + 1, hours);
                }
            }
        }

        private void keepBest(int cost) {
            copyRow(rates, best);
            bestCost = cost;
            found = true;
        }

        void keepRule(Mill m, Drum from, int[] settings, int hours) {
            reached.copyFrom(from);
            copyRow(settings, row);
            for (int i = 0; i < hours && i < PLAN_HOURS; i++) {
                row[RATE] = leastRate(m);
                reached.runHour(m, row, 0);
            }
        }

        private int leastRate(Mill m) {
            for (int rate = 0; rate <= MOST_RATE; rate++) {
                row[RATE] = rate;
                attempt.copyFrom(reached);
                attempt.runHour(m, row, 0);
                if (attempt.wentWell()) {
                    return rate;
                }
            }
            return 0;
        }
    }

    /** A TRY. */
    private static final class Trial {
        private static final int ROW = 8;

        private final int[] before = new int[ROW];
        private final int[] after = new int[ROW];
        private final int[] all = new int[2 * ROW];
        private int beforeCount;
        private int afterCount;

        boolean isFilled(boolean inAfter) {
            return (inAfter ? afterCount : beforeCount) >= ROW;
        }

        boolean lacksRow() {
            return beforeCount == 0 || afterCount == 0;
        }

        int add(boolean inAfter, int v) {
            if (isFilled(inAfter)) {
                return ROW;
            }
            if (inAfter) {
                after[afterCount] = v;
                afterCount++;
                return afterCount;
            }
            before[beforeCount] = v;
            beforeCount++;
            return beforeCount;
        }

        int drop() {
            int had = beforeCount + afterCount;
            beforeCount = 0;
            afterCount = 0;
            return had;
        }

        int countNoLess() {
            int sum = 0;
            for (int i = 0; i < afterCount && i < ROW; i++) {
                all[i] = after[i];
                sum += after[i];
            }
            for (int i = 0; i < beforeCount && i < ROW && afterCount + i < all.length; i++) {
                all[afterCount + i] = before[i];
            }
            return countFrom(all, 0, beforeCount + afterCount, afterCount, sum);
        }

        int countAll() {
            long ways = 1;
            for (int i = 1; i <= afterCount; i++) {
                ways = ways * (beforeCount + i) / i;
            }
            return (int) ways;
        }

        /** In how many ways so many numbers from a place on come together to no less than is needed. */
        private static int countFrom(int[] numbers, int from, int count, int left, int needed) {
            if (left <= 0) {
                return needed <= 0 ? 1 : 0;
            }
            if (from < 0 || from >= count || from >= numbers.length || left > count - from) {
                return 0;
            }
            return countFrom(numbers, from + 1, count, left - 1, needed - numbers[from])
                + countFrom(numbers, from + 1, count, left, needed);
        }
    }
}
