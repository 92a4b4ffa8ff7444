/** Heights of the sea at up to four ports, by whole numbers; see README.md for how to use it. */
public final class TideTable {
    public static final int NONE = -10001, UNKNOWN = -10101, OUTSIDE = -10102, STATE = -10103, FULL = -10104;

    private static final int PLAIN = 0, SILLED = 1, BASIN = 2, FOLLOWER = 3, STORMY = 4;
    private static final String KIND_LETTERS = "psbft";

    private static final int MOST_PORTS = 4, MOST_WAVES = 3, MOST_LETTERS = 96, MOST_SEEN = 6;
    private static final int MOST_OF_TWO_FIGURES = 99, MOST_START = 63, USUAL_RATIO = 50;
    private static final int DAY = 144, LAST_DAY = 9, LAST_TICK = 1439, TICKS = 1440;
    private static final int LEAST_NEED = -2000, MOST_NEED = 4000, MOST_PACE = 30, MOST_TIMES = 50;
    private static final int BASIN_KEEPS = 6;
    private static final int WAY = 300, LONGEST_TRIP = 200;

    // A trip may leave at the last tick of a day, and the height is asked where it arrives.
    private static final int ROW = DAY + LONGEST_TRIP;

    // A port's text: a letter, mean and mark; then a ratio, or six figures for each wave.
    private static final int HEAD_LETTERS = 5, WAVE_LETTERS = 6;
    private static final int FOLLOWER_LETTERS = HEAD_LETTERS + 2;
    private static final int LONGEST_PORT = HEAD_LETTERS + MOST_WAVES * WAVE_LETTERS;

    private static final int[] QUARTER = {
        1000, 995, 981, 957, 924, 882, 831, 773, 707, 634, 556, 471, 383, 290, 195, 98, 0
    };

    // Kinds as bits: by the number of what is seen, those that could do so.
    private static final int[] COULD = {6, 4, 8, 16};
    private static final int ALL_SORTS = 31;

    private static final int[] DIGEST_TICKS = {0, 7, 50, 144, 400, 1439};

    private final Page page = new Page();
    private final Sea sea = new Sea();
    private final Sea kept = new Sea();
    private boolean isKept;
    private int readings;

    // Made once and filled anew by each call, since nothing that a run makes is given back.
    private final int[] row = new int[ROW];
    private final int[] otherRow = new int[ROW];

    public TideTable() {
    }

    // ---- the ports

    public int letter(int code) {
        if (!within(code, 32, 126)) {
            return OUTSIDE;
        }
        if (page.many >= MOST_LETTERS) {
            return FULL;
        }
        page.codes[page.many] = code;
        page.many++;
        return page.many;
    }

    public int blank() {
        int had = page.many;
        page.many = 0;
        return had;
    }

    public int fault() {
        return page.firstWrong();
    }

    public int ports() {
        if (!page.isWhole()) {
            return STATE;
        }
        page.readInto(sea);
        page.many = 0;
        isKept = false;
        readings++;
        return sea.many;
    }

    public int port(int port, int what) {
        if (!sea.knows(port)) {
            return UNKNOWN;
        }
        Port it = sea.harbours[port];
        switch (what) {
            case 0: return it.kind;
            case 1: return it.mean;
            case 2: return it.mark;
            case 3: return it.ratio;
            case 4: return it.many;
            case 5: return it.sorts;
            case 6: return nextToAsk(it.sorts);
            default: return OUTSIDE;
        }
    }

    public int wave(int port, int wave, int what) {
        if (!sea.knows(port) || !sea.harbours[port].has(wave)) {
            return UNKNOWN;
        }
        Wave it = sea.harbours[port].waves[wave];
        switch (what) {
            case 0: return it.speed;
            case 1: return it.size;
            case 2: return it.start;
            default: return OUTSIDE;
        }
    }

    public int as(int port, int kind) {
        if (!sea.knows(port)) {
            return UNKNOWN;
        }
        if (!within(kind, PLAIN, STORMY)) {
            return OUTSIDE;
        }
        return sea.harbours[port].isA(kind) ? port : NONE;
    }

    // ---- heights

    public int round(int step) {
        return within(step, 0, 64) ? roundAt(step) : OUTSIDE;
    }

    public int sum(int port, int tick) {
        if (!sea.knows(port)) {
            return UNKNOWN;
        }
        return within(tick, 0, LAST_TICK) ? sea.harbours[port].sumAt(tick) : OUTSIDE;
    }

    public int height(int port, int tick) {
        if (!sea.knows(port)) {
            return UNKNOWN;
        }
        return within(tick, 0, LAST_TICK) ? sea.heightAt(port, tick) : OUTSIDE;
    }

    public int tide(int port, int day, int number, int what) {
        if (!sea.knows(port)) {
            return UNKNOWN;
        }
        if (!within(day, 0, LAST_DAY)) {
            return OUTSIDE;
        }
        int ahead = day * DAY - 1;
        sea.fill(row, port, ahead, 1 + DAY + DAY);
        int place = placeOfTide(number);
        if (place == NONE) {
            return UNKNOWN;
        }
        switch (what) {
            case 0: return ahead + place;
            case 1: return turnAt(place) > 0 ? 1 : 0;
            case 2: return row[place];
            default: return OUTSIDE;
        }
    }

    public int gate(int port, int day, int need, int number, int what) {
        if (!sea.knows(port)) {
            return UNKNOWN;
        }
        if (!within(day, 0, LAST_DAY) || !within(need, LEAST_NEED, MOST_NEED)) {
            return OUTSIDE;
        }
        sea.fill(row, port, day * DAY, DAY);
        int first = firstOfGate(need, number);
        if (first == NONE) {
            return UNKNOWN;
        }
        switch (what) {
            case 0: return day * DAY + first;
            case 1: return day * DAY + lastOfGate(need, first);
            default: return OUTSIDE;
        }
    }

    public int dry(int port, int day, int rock) {
        if (!sea.knows(port)) {
            return UNKNOWN;
        }
        if (!within(day, 0, LAST_DAY) || !within(rock, LEAST_NEED, MOST_NEED)) {
            return OUTSIDE;
        }
        sea.fill(row, port, day * DAY, DAY);
        int ticks = 0;
        for (int place = 0; place < DAY; place++) {
            if (row[place] < rock) {
                ticks++;
            }
        }
        return ticks;
    }

    // ---- streams

    public int stream(int one, int other, int tick) {
        if (!sea.knows(one) || !sea.knows(other)) {
            return UNKNOWN;
        }
        if (!within(tick, 0, LAST_TICK)) {
            return OUTSIDE;
        }
        return sea.heightAt(one, tick) - sea.heightAt(other, tick);
    }

    public int slack(int one, int other, int tick) {
        if (!sea.knows(one) || !sea.knows(other)) {
            return UNKNOWN;
        }
        if (!within(tick, 0, LAST_TICK)) {
            return OUTSIDE;
        }
        int ahead = tick - 1;
        sea.fill(row, one, ahead, 1 + DAY);
        sea.fill(otherRow, other, ahead, 1 + DAY);
        for (int place = 1; place <= DAY; place++) {
            int was = row[place - 1] - otherRow[place - 1];
            int is = row[place] - otherRow[place];
            if (is == 0 || is > 0 && was < 0 || is < 0 && was > 0) {
                return ahead + place;
            }
        }
        return NONE;
    }

    public int trip(int one, int other, int tick, int pace) {
        if (!sea.knows(one) || !sea.knows(other)) {
            return UNKNOWN;
        }
        if (!within(tick, 0, LAST_TICK) || !within(pace, 1, MOST_PACE)) {
            return OUTSIDE;
        }
        sea.fill(row, one, tick, LONGEST_TRIP);
        sea.fill(otherRow, other, tick, LONGEST_TRIP);
        return tripFrom(0, pace);
    }

    public int leave(int one, int other, int day, int pace, int need) {
        if (!sea.knows(one) || !sea.knows(other)) {
            return UNKNOWN;
        }
        if (!within(day, 0, LAST_DAY) || !within(pace, 1, MOST_PACE) || !within(need, LEAST_NEED, MOST_NEED)) {
            return OUTSIDE;
        }
        sea.fill(row, one, day * DAY, ROW);
        sea.fill(otherRow, other, day * DAY, ROW);
        for (int place = 0; place < DAY; place++) {
            int lasts = tripFrom(place, pace);
            if (lasts != NONE && otherRow[place + lasts] >= need) {
                return day * DAY + place;
            }
        }
        return NONE;
    }

    // ---- what is done

    public int mean(int port, int mean) {
        if (!sea.knows(port)) {
            return UNKNOWN;
        }
        if (!within(mean, 0, MOST_OF_TWO_FIGURES)) {
            return OUTSIDE;
        }
        int was = sea.harbours[port].mean;
        sea.harbours[port].mean = mean;
        return was;
    }

    public int mark(int port, int mark) {
        if (!sea.knows(port)) {
            return UNKNOWN;
        }
        if (!within(mark, 0, MOST_OF_TWO_FIGURES)) {
            return OUTSIDE;
        }
        int was = sea.harbours[port].mark;
        sea.harbours[port].mark = mark;
        return was;
    }

    public int ratio(int port, int ratio) {
        if (!sea.knows(port)) {
            return UNKNOWN;
        }
        if (!within(ratio, 0, MOST_OF_TWO_FIGURES)) {
            return OUTSIDE;
        }
        int was = sea.harbours[port].ratio;
        sea.harbours[port].ratio = ratio;
        return was;
    }

    public int add(int port, int speed, int size, int start) {
        if (!sea.knows(port)) {
            return UNKNOWN;
        }
        if (!within(speed, 1, MOST_OF_TWO_FIGURES) || !within(size, 0, MOST_OF_TWO_FIGURES)
                || !within(start, 0, MOST_START)) {
            return OUTSIDE;
        }
        Port it = sea.harbours[port];
        if (it.many >= MOST_WAVES) {
            return FULL;
        }
        it.putWave(speed, size, start);
        return it.many;
    }

    public int take(int port, int wave) {
        if (!sea.knows(port) || !sea.harbours[port].has(wave)) {
            return UNKNOWN;
        }
        sea.harbours[port].dropWave(wave);
        return sea.harbours[port].many;
    }

    public int be(int port, int kind) {
        if (!sea.knows(port)) {
            return UNKNOWN;
        }
        if (!within(kind, PLAIN, STORMY) || port == 0 && kind == FOLLOWER) {
            return OUTSIDE;
        }
        int was = sea.harbours[port].kind;
        sea.harbours[port].kind = kind;
        return was;
    }

    // ---- what is seen

    public int see(int port, int what, boolean could) {
        if (!sea.knows(port)) {
            return UNKNOWN;
        }
        if (!within(what, 0, COULD.length - 1)) {
            return OUTSIDE;
        }
        if (sea.seen >= MOST_SEEN) {
            return FULL;
        }
        sea.harbours[port].sorts &= could ? COULD[what] : ~COULD[what];
        sea.seen++;
        return sea.seen;
    }

    public int forget() {
        int was = sea.seen;
        for (int port = 0; port < sea.many; port++) {
            sea.harbours[port].sorts = ALL_SORTS;
        }
        sea.seen = 0;
        return was;
    }

    public int drawn(int times, int seed, int what) {
        if (!within(times, 1, MOST_TIMES) || seed < 0 || !within(what, 0, 2)) {
            return OUTSIDE;
        }
        if (sea.many == 0) {
            return STATE;
        }
        int often = 0;
        int total = 0;
        int last = seed;
        for (int time = 0; time < times; time++) {
            last = nextSeed(last);
            int port = (last >> 16) % sea.many;
            last = nextSeed(last);
            int high = sea.heightAt(port, (last >> 16) % TICKS);
            if (high >= 10 * sea.harbours[port].mean) {
                often++;
            }
            total += high;
        }
        return what == 0 ? often : what == 1 ? total : last;
    }

    // ---- what is told of all

    public int image() {
        if (sea.many == 0) {
            return STATE;
        }
        kept.become(sea);
        isKept = true;
        return sea.many;
    }

    public int restore() {
        if (!isKept) {
            return STATE;
        }
        sea.become(kept);
        return sea.many;
    }

    public int count(int what) {
        switch (what) {
            case 0: return sea.many;
            case 1: return sea.wavesOfAll();
            case 2: return sea.followers();
            case 3: return sea.greatestOnDay0();
            case 4: return sea.seen;
            case 5: return page.many;
            case 6: return readings;
            default: return OUTSIDE;
        }
    }

    public long digest() {
        long h = 1423;
        for (int port = 0; port < sea.many; port++) {
            h = withPort(h, port);
        }
        for (int place = 0; place < page.many; place++) {
            h = with(h, page.codes[place]);
        }
        for (int what = 0; what <= 6; what++) {
            h = with(h, count(what));
        }
        return h;
    }

    private long withPort(long before, int port) {
        long h = before;
        for (int what = 0; what <= 6; what++) {
            h = with(h, port(port, what));
        }
        for (int wave = 0; wave < sea.harbours[port].many; wave++) {
            for (int what = 0; what <= 2; what++) {
                h = with(h, wave(port, wave, what));
            }
        }
        for (int tick : DIGEST_TICKS) {
            h = with(h, sea.harbours[port].sumAt(tick));
            h = with(h, sea.heightAt(port, tick));
        }
        return h;
    }

    private static long with(long h, int number) {
        return 31 * h + number;
    }

    private static boolean within(int number, int least, int most) {
        return number >= least && number <= most;
    }

    // The mask makes every step one of the table's, so that no index can be wrong.
    private static int roundAt(int step) {
        int folded = step & 63;
        if (folded > 32) {
            folded = 64 - folded;
        }
        return folded > 16 ? -QUARTER[32 - folded] : QUARTER[folded];
    }

    private static int nextToAsk(int sorts) {
        if (sorts == 0) {
            return NONE;
        }
        int best = 0;
        for (int what = 1; what < COULD.length; what++) {
            if (leftAtWorst(sorts, COULD[what]) < leftAtWorst(sorts, COULD[best])) {
                best = what;
            }
        }
        return best;
    }

    private static int leftAtWorst(int sorts, int able) {
        return Math.max(Integer.bitCount(sorts & able), Integer.bitCount(sorts & ~able));
    }

    // The product may wrap, but its rest by 2 to the 31 stays the same.
    private static int nextSeed(int seed) {
        return 1103515245 * seed + 12345 & 0x7fffffff;
    }

    /** The place in the row of the tide with a number; the row begins one tick ahead of the day. */
    private int placeOfTide(int number) {
        int found = 0;
        for (int place = 1; place <= DAY; place++) {
            if (turnAt(place) != 0) {
                if (found == number) {
                    return place;
                }
                found++;
            }
        }
        return NONE;
    }

    /** 1 at a high water, -1 at a low one, else 0. */
    private int turnAt(int place) {
        if (!within(place, 1, DAY) || row[place] == row[place - 1]) {
            return 0;
        }
        int next = place + 1;
        while (next < place + DAY && row[next] == row[place]) {
            next++;
        }
        int came = Integer.compare(row[place], row[place - 1]);
        int goes = Integer.compare(row[next], row[place]);
        return came == -goes ? came : 0;
    }

    private int firstOfGate(int need, int number) {
        int found = 0;
        for (int place = 0; place < DAY; place++) {
            if (row[place] >= need && (place == 0 || row[place - 1] < need)) {
                if (found == number) {
                    return place;
                }
                found++;
            }
        }
        return NONE;
    }

    private int lastOfGate(int need, int first) {
        int last = first;
        while (last + 1 < DAY && row[last + 1] >= need) {
            last++;
        }
        return last;
    }

    /** How long a trip lasts that leaves at a place of the two rows. */
    private int tripFrom(int place, int pace) {
        int far = 0;
        for (int lasts = 1; lasts <= LONGEST_TRIP; lasts++) {
            int at = place + lasts - 1;
            far += Math.max(0, pace + Math.floorDiv(row[at] - otherRow[at], 20));
            if (far >= WAY) {
                return lasts;
            }
        }
        return NONE;
    }

    private static final class Wave {
        int speed;
        int size;
        int start;

        void put(int newSpeed, int newSize, int newStart) {
            speed = newSpeed;
            size = newSize;
            start = newStart;
        }

        int givesAt(int tick) {
            // The mask leaves the rest 0 at least ahead of tick 0 too; the shift rounds towards less.
            int angle = speed * tick + 16 * start & 1023;
            int step = angle >> 4;
            int rest = angle & 15;
            int turn = roundAt(step) * (16 - rest) + roundAt(step + 1) * rest >> 4;
            return Math.floorDiv(size * turn, 100);
        }
    }

    private static final class Port {
        int kind;
        int mean;
        int mark;
        int ratio;
        // What is seen of a port is only ever added to, so the kinds that are left tell all of it.
        int sorts = ALL_SORTS;
        final Wave[] waves = new Wave[MOST_WAVES];
        int many;

        Port() {
            for (int wave = 0; wave < MOST_WAVES; wave++) {
                waves[wave] = new Wave();
            }
        }

        void begin(int newKind, int newMean, int newMark, int newRatio) {
            kind = newKind;
            mean = newMean;
            mark = newMark;
            ratio = newRatio;
            sorts = ALL_SORTS;
            many = 0;
        }

        void become(Port other) {
            begin(other.kind, other.mean, other.mark, other.ratio);
            sorts = other.sorts;
            for (int wave = 0; wave < other.many; wave++) {
                Wave it = other.waves[wave];
                putWave(it.speed, it.size, it.start);
            }
        }

        boolean has(int wave) {
            return wave >= 0 && wave < many;
        }

        boolean isA(int asked) {
            return asked == PLAIN || asked == kind || asked == SILLED && kind == BASIN;
        }

        void putWave(int speed, int size, int start) {
            if (many < MOST_WAVES) {
                waves[many].put(speed, size, start);
                many++;
            }
        }

        void dropWave(int wave) {
            for (int to = wave; to + 1 < many; to++) {
                Wave next = waves[to + 1];
                waves[to].put(next.speed, next.size, next.start);
            }
            many--;
        }

        int sumAt(int tick) {
            int total = 10 * mean;
            for (int wave = 0; wave < many; wave++) {
                total += waves[wave].givesAt(tick);
            }
            return total;
        }

        /** The height of a port that follows no other one. */
        int ownHeightAt(int tick) {
            int high = sumAt(tick);
            if (kind == STORMY && isOddDay(tick)) {
                high += mark;
            }
            if (isA(SILLED)) {
                high = Math.max(high, 10 * mark);
            }
            int keeps = kind == BASIN ? BASIN_KEEPS : 0;
            for (int ago = 1; ago <= keeps; ago++) {
                high = Math.max(high, sumAt(tick - ago));
            }
            return high;
        }

        // The ticks ahead of tick 0 are those of day -1, which is odd.
        private static boolean isOddDay(int tick) {
            return (Math.floorDiv(tick, DAY) & 1) == 1;
        }
    }

    /** The ports, with what is seen of them: all that an image keeps. */
    private static final class Sea {
        final Port[] harbours = new Port[MOST_PORTS];
        int many;
        int seen;

        Sea() {
            for (int port = 0; port < MOST_PORTS; port++) {
                harbours[port] = new Port();
            }
        }

        void become(Sea other) {
            many = other.many;
            seen = other.seen;
            for (int port = 0; port < many; port++) {
                harbours[port].become(other.harbours[port]);
            }
        }

        boolean knows(int port) {
            return port >= 0 && port < many;
        }

        int heightAt(int port, int tick) {
            if (!knows(port)) {
                return 0;
            }
            Port it = harbours[port];
            if (it.kind != FOLLOWER) {
                return it.ownHeightAt(tick);
            }
            int followed = harbours[0].ownHeightAt(tick - it.mark);
            return Math.floorDiv(followed * it.ratio, 100) + 10 * it.mean;
        }

        void fill(int[] heights, int port, int first, int length) {
            for (int place = 0; place < length && place < heights.length; place++) {
                heights[place] = heightAt(port, first + place);
            }
        }

        int wavesOfAll() {
            int waves = 0;
            for (int port = 0; port < many; port++) {
                waves += harbours[port].many;
            }
            return waves;
        }

        int followers() {
            int found = 0;
            for (int port = 0; port < many; port++) {
                if (harbours[port].kind == FOLLOWER) {
                    found++;
                }
            }
            return found;
        }

        int greatestOnDay0() {
            // All heights may be below 0, so none of them can be left out of the comparison.
            int greatest = heightAt(0, 0);
            for (int port = 0; port < many; port++) {
                for (int tick = 0; tick < DAY; tick++) {
                    greatest = Math.max(greatest, heightAt(port, tick));
                }
            }
            return greatest;
        }
    }

    /** The letters that came, and whether ports can be read from them. */
    private static final class Page {
        final int[] codes = new int[MOST_LETTERS];
        int many;

        // Where the last look at the letters stood: the first letter of the port, and its number.
        private int start;
        private int number;

        int firstWrong() {
            start = 0;
            number = 0;
            for (int place = 0; place < many; place++) {
                if (codes[place] == ',' && number + 1 < MOST_PORTS && canEndAhead(place)) {
                    start = place + 1;
                    number++;
                } else if (!fits(place)) {
                    return place;
                }
            }
            return many;
        }

        boolean isWhole() {
            return firstWrong() == many && canEndAhead(many);
        }

        private boolean canEndAhead(int place) {
            int length = place - start;
            if (length < FOLLOWER_LETTERS) {
                return false;
            }
            if (codes[start] == 'f') {
                return length == FOLLOWER_LETTERS;
            }
            return (length - HEAD_LETTERS) % WAVE_LETTERS == 0;
        }

        private boolean fits(int place) {
            int code = codes[place];
            if (place == start) {
                return code == 'f' ? number > 0 : kindOf(code) >= 0;
            }
            boolean follows = codes[start] == 'f';
            int behind = place - start - 1;
            if (behind + 1 >= (follows ? FOLLOWER_LETTERS : LONGEST_PORT) || !within(code, '0', '9')) {
                return false;
            }
            // A port's numbers begin with mean and mark; then speed, size and start take turns.
            int turn = follows || behind < 4 ? NONE : (behind - 4) / 2 % 3;
            int least = turn == 0 ? 1 : 0;
            int most = turn == 2 ? MOST_START : MOST_OF_TWO_FIGURES;
            int figure = code - '0';
            if (behind % 2 == 0) {
                return 10 * figure <= most;
            }
            return within(10 * (codes[place - 1] - '0') + figure, least, most);
        }

        private static int kindOf(int code) {
            return KIND_LETTERS.indexOf((char) code);
        }

        /** Reads the ports of a page that is whole. */
        void readInto(Sea sea) {
            sea.many = 0;
            sea.seen = 0;
            int place = 0;
            while (place < many && sea.many < MOST_PORTS) {
                place = readPort(place, sea.harbours[sea.many]) + 1;
                sea.many++;
            }
        }

        /** The place behind the port that begins at a place. */
        private int readPort(int place, Port port) {
            int kind = kindOf(codes[place]);
            int at = place + HEAD_LETTERS;
            if (kind == FOLLOWER) {
                port.begin(kind, numberAt(place + 1), numberAt(place + 3), numberAt(at));
                return place + FOLLOWER_LETTERS;
            }
            port.begin(kind, numberAt(place + 1), numberAt(place + 3), USUAL_RATIO);
            while (at < many && codes[at] != ',') {
                port.putWave(numberAt(at), numberAt(at + 2), numberAt(at + 4));
                at += WAVE_LETTERS;
            }
            return at;
        }

        private int numberAt(int place) {
            if (place < 0 || place + 1 >= many) {
                return 0;
            }
            return 10 * (codes[place] - '0') + codes[place + 1] - '0';
        }
    }
}
