/**
 * A net of boxes and wires: streams whose letters leave each box at their tick, and plain letters
 * that go between them by doors.
 */
public final class DoorNet {
    public static final int NONE = -1;

    private static final int REFUSED = -2;
    private static final int LATE = -3;
    private static final int NO_LETTER = -1000;

    private static final int MOST_BOXES = 6;
    private static final int MOST_WIRES = 12;
    private static final int MOST_STREAMS = 8;
    private static final int MOST_LETTERS = 60;
    private static final int MOST_HOPS = 4;
    private static final int MOST_CHOICES = 3;
    private static final int MOST_STIRRED = 3;
    private static final int MOST_TRIES = 40000;
    // One to four WIRES out of twelve make one WAY at most: 12 + 66 + 220 + 495.
    private static final int MOST_WAYS = 793;

    private static final int MOST_HOLD = 5;
    private static final int MOST_LENGTH = 9;
    private static final int MOST_SPEED = 3;
    private static final int MOST_DRIFT = 3;
    private static final int MOST_SIZE = 8;
    private static final int MOST_LATEST = 200;
    private static final int LEAST_PERIOD = 2;
    private static final int LAST_SEND = 999;
    private static final int LAST_OF_STREAM = 99;
    private static final int WHOLE_WAY = 9;
    private static final int ITS_LATENESS = 4;
    private static final int END = 3000;

    private static final int[] CYCLES = {12, 24, 48, 60, 120};

    private static final int FOUND = 1;
    private static final int NO_PLAN = 0;
    private static final int FULL = -2;

    private final Net net;
    private final Ways ways;
    private final Streams streams;
    private final Doors doors;
    private final Planner planner;
    private final Post post;

    public DoorNet() {
        net = new Net();
        ways = new Ways(net);
        streams = new Streams();
        doors = new Doors(net);
        planner = new Planner(net, streams, doors);
        post = new Post(net, ways, doors);
    }

    public int box(int hold) {
        return within(hold, 0, MOST_HOLD) ? net.makeBox(hold) : NONE;
    }

    public int wire(int from, int to, int length, int speed) {
        if (!net.hasPair(from, to) || streams.told > 0 || post.told > 0) {
            return NONE;
        }
        if (!within(length, 0, MOST_LENGTH) || !within(speed, 1, MOST_SPEED)) {
            return NONE;
        }
        return net.makeWire(from, to, length, speed);
    }

    public boolean cycle(int h) {
        if (streams.told > 0 || !isCycle(h)) {
            return false;
        }
        net.ticks = h;
        return true;
    }

    public boolean drift(int d) {
        if (streams.told > 0 || !within(d, 0, MOST_DRIFT)) {
            return false;
        }
        net.slack = d;
        net.rightClocks();
        post.stale = true;
        return true;
    }

    public int way(int a, int b, int size, int k, int i) {
        if (!net.hasBox(a) || !net.hasBox(b) || !isSize(size) || !within(k, 0, MOST_WAYS - 1)) {
            return NONE;
        }
        int found = ways.atRank(a, b, size, k);
        if (found == NONE) {
            return NONE;
        }
        return i == ITS_LATENESS ? Ways.latenessOf(found) : Ways.wireAt(found, i);
    }

    public int stream(int from, int to, int size, int period, int latest) {
        if (streams.told >= MOST_STREAMS || !net.hasPair(from, to) || !isSize(size)) {
            return NONE;
        }
        if (!isPeriod(period) || !within(latest, 1, MOST_LATEST)) {
            return NONE;
        }
        if (!isInTime(ways.nextBehind(from, to, size, NONE), latest)) {
            return REFUSED;
        }
        Stream made = new Stream(size, period);
        findChoices(made, from, to, latest);
        return streams.tell(made);
    }

    public boolean strike(int s) {
        Stream it = streams.placedOne(s);
        if (it == null) {
            return false;
        }
        it.choice = NONE;
        planner.showDoors();
        post.stale = true;
        return true;
    }

    public int plan() {
        planner.begin();
        int answer = planner.fit(streams.allOfThem());
        post.stale = true;
        return answer;
    }

    public int add() {
        planner.begin();
        int answer = planner.fit(streams.withoutPlace());
        post.stale = true;
        return answer;
    }

    public int stir() {
        planner.begin();
        int answer = planner.fitFewest();
        post.stale = true;
        return answer;
    }

    public int place(int s, int what) {
        Stream it = streams.placedOne(s);
        if (it == null) {
            return NONE;
        }
        int way = it.wayNow();
        switch (what) {
            case 0:
                return it.choice;
            case 1:
                return it.tick;
            case 2:
                return Ways.wiresIn(way);
            case 3:
                return Ways.latenessOf(way);
            default:
                break;
        }
        if (within(what, 10, 9 + MOST_HOPS)) {
            return Ways.wireAt(way, what - 10);
        }
        return Ways.hasHop(way, what - 20) ? net.startOf(it, what - 20) : NONE;
    }

    public int tries() {
        return planner.made;
    }

    public int door(int w, int t) {
        if (!net.hasWire(w) || !net.hasTick(t)) {
            return REFUSED;
        }
        for (int s = 0; s < streams.told; s++) {
            Stream it = streams.placedOne(s);
            if (it != null && net.hasDoor(it, w, t)) {
                return s;
            }
        }
        return NONE;
    }

    public int waits(int w, int t, int size) {
        if (!net.hasWire(w) || !net.hasTick(t) || !isSize(size)) {
            return REFUSED;
        }
        return doors.waitFrom(w, t, net.timeOn(w, size));
    }

    public int worst(int w, int size) {
        if (!net.hasWire(w) || !isSize(size)) {
            return REFUSED;
        }
        int greatest = 0;
        for (int t = 0; t < net.ticks; t++) {
            int wait = doors.waitFrom(w, t, net.timeOn(w, size));
            if (wait == NONE) {
                return NONE;
            }
            greatest = Math.max(greatest, wait);
        }
        return greatest;
    }

    public boolean clock(int b, int e) {
        if (!net.hasBox(b) || !within(e, -net.slack, net.slack)) {
            return false;
        }
        net.off[b] = e;
        post.stale = true;
        return true;
    }

    public int send(int tick, int from, int to, int size) {
        if (post.told >= MOST_LETTERS || !within(tick, 0, LAST_SEND)) {
            return NONE;
        }
        if (!net.hasPair(from, to) || !isSize(size)) {
            return NONE;
        }
        if (ways.nextBehind(from, to, size, NONE) == NONE) {
            return REFUSED;
        }
        return post.tell(new Letter(tick, from, to, size));
    }

    public int leaves(int s, int n, int k) {
        Stream it = streams.placedOne(s);
        if (it == null || !within(n, 0, LAST_OF_STREAM)) {
            return NO_LETTER;
        }
        int way = it.wayNow();
        if (k == WHOLE_WAY) {
            int last = Ways.wiresIn(way) - 1;
            return net.beginOf(it, n, last) + net.crossing(Ways.wireAt(way, last), it.size);
        }
        return Ways.hasHop(way, k) ? net.beginOf(it, n, k) : NO_LETTER;
    }

    public int room(int s, int n, int k) {
        Stream it = streams.placedOne(s);
        if (it == null || !within(n, 0, LAST_OF_STREAM)) {
            return NO_LETTER;
        }
        int way = it.wayNow();
        if (k < 1 || !Ways.hasHop(way, k)) {
            return NO_LETTER;
        }
        int ahead = Ways.wireAt(way, k - 1);
        int there = net.beginOf(it, n, k - 1) + net.crossing(ahead, it.size);
        return net.beginOf(it, n, k) - there - net.holdBehind(ahead);
    }

    public int plain(int l, int what) {
        post.settle();
        Letter it = post.letter(l);
        if (it == null) {
            return NONE;
        }
        if (what == 0) {
            return Ways.wiresIn(it.way);
        }
        if (what == 1) {
            return aheadOfEnd(it.end);
        }
        if (within(what, 10, 9 + MOST_HOPS)) {
            return Ways.wireAt(it.way, what - 10);
        }
        if (Ways.hasHop(it.way, what - 20)) {
            return aheadOfEnd(it.begun[what - 20]);
        }
        return Ways.hasHop(it.way, what - 30) ? aheadOfEnd(it.waited[what - 30]) : NONE;
    }

    public int most(int w) {
        if (!net.hasWire(w)) {
            return NONE;
        }
        post.settle();
        return post.longestRow(w);
    }

    public int count(int what) {
        switch (what) {
            case 0:
                return net.boxes;
            case 1:
                return net.wires;
            case 2:
                return net.ticks;
            case 3:
                return net.slack;
            case 4:
                return streams.told;
            case 5:
                return Integer.bitCount(streams.withPlace());
            case 6:
                return post.told;
            case 7:
                post.settle();
                return post.ended();
            default:
                return NONE;
        }
    }

    private void findChoices(Stream it, int from, int to, int latest) {
        int way = ways.nextBehind(from, to, it.size, NONE);
        for (int c = 0; c < MOST_CHOICES && isInTime(way, latest); c++) {
            it.offer(way);
            way = ways.nextBehind(from, to, it.size, way);
        }
    }

    private boolean isPeriod(int period) {
        return period >= LEAST_PERIOD && net.ticks % period == 0;
    }

    private static boolean isInTime(int way, int latest) {
        return way != NONE && Ways.latenessOf(way) <= latest;
    }

    private static boolean isCycle(int h) {
        for (int c : CYCLES) {
            if (c == h) {
                return true;
            }
        }
        return false;
    }

    private static boolean isSize(int size) {
        return within(size, 1, MOST_SIZE);
    }

    private static boolean within(int x, int least, int greatest) {
        return x >= least && x <= greatest;
    }

    private static int aheadOfEnd(int tick) {
        return tick < END ? tick : LATE;
    }

    /** BOXES, WIRES and clocks, and how long letters take between them. */
    private static final class Net {
        final int[] hold = new int[MOST_BOXES];
        final int[] off = new int[MOST_BOXES];
        final int[] from = new int[MOST_WIRES];
        final int[] to = new int[MOST_WIRES];
        final int[] length = new int[MOST_WIRES];
        final int[] speed = new int[MOST_WIRES];
        int boxes = 0;
        int wires = 0;
        int ticks = 12;
        int slack = 0;

        boolean hasBox(int b) {
            return b >= 0 && b < boxes;
        }

        boolean hasPair(int a, int b) {
            return hasBox(a) && hasBox(b) && a != b;
        }

        boolean hasWire(int w) {
            return w >= 0 && w < wires;
        }

        boolean hasTick(int t) {
            return t >= 0 && t < ticks;
        }

        int makeBox(int itsHold) {
            if (boxes >= MOST_BOXES) {
                return NONE;
            }
            hold[boxes] = itsHold;
            boxes++;
            return boxes - 1;
        }

        int makeWire(int a, int b, int itsLength, int itsSpeed) {
            if (wires >= MOST_WIRES) {
                return NONE;
            }
            from[wires] = a;
            to[wires] = b;
            length[wires] = itsLength;
            speed[wires] = itsSpeed;
            wires++;
            return wires - 1;
        }

        void rightClocks() {
            for (int b = 0; b < MOST_BOXES; b++) {
                off[b] = 0;
            }
        }

        int timeOn(int w, int size) {
            return hasWire(w) ? size * speed[w] : 0;
        }

        /** From when a letter begins to take a WIRE till it is wholly in the other BOX. */
        int crossing(int w, int size) {
            return hasWire(w) ? size * speed[w] + length[w] : 0;
        }

        int holdBehind(int w) {
            return hasWire(w) && hasBox(to[w]) ? hold[to[w]] : 0;
        }

        /** From when a letter of a STREAM is wholly behind a WIRE till it goes on. */
        int stayBehind(int w) {
            return hasWire(w) && hasBox(to[w]) ? hold[to[w]] + 2 * slack : 0;
        }

        int offAt(int w) {
            return hasWire(w) && hasBox(from[w]) ? off[from[w]] : 0;
        }

        int startOf(Stream s, int k) {
            int start = s.tick;
            for (int j = 0; j < k && j < MOST_HOPS; j++) {
                int w = Ways.wireAt(s.wayNow(), j);
                start += crossing(w, s.size) + stayBehind(w);
            }
            return start;
        }

        /** The true TICK at which the n-th letter begins, by the clock of the BOX where it is. */
        int beginOf(Stream s, int n, int k) {
            return startOf(s, k) + n * s.period + offAt(Ways.wireAt(s.wayNow(), k));
        }

        boolean hasDoor(Stream s, int w, int t) {
            int k = Ways.hopOn(s.wayNow(), w);
            return k != NONE && Math.floorMod(t - startOf(s, k), s.period) < timeOn(w, s.size);
        }
    }

    /**
     * A WAY is held as one int: its LATENESS, then four digits of four bits, each a WIRE's number
     * and one, or 0 for no WIRE. So WAYS are ordered as their ints are.
     */
    private static final class Ways {
        private static final int DIGIT = 4;
        private static final int DIGITS = DIGIT * MOST_HOPS;

        private final Net net;
        private int goal = 0;
        private int size = 1;
        private int behind = NONE;
        private int least = NONE;

        Ways(Net itsNet) {
            net = itsNet;
        }

        static int latenessOf(int way) {
            return way >> DIGITS;
        }

        static int wireAt(int way, int k) {
            if (k < 0 || k >= MOST_HOPS) {
                return NONE;
            }
            return (way >> shiftOf(k) & 15) - 1;
        }

        static int wiresIn(int way) {
            int many = 0;
            for (int k = 0; k < MOST_HOPS; k++) {
                if (wireAt(way, k) != NONE) {
                    many++;
                }
            }
            return many;
        }

        static boolean hasHop(int way, int k) {
            return wireAt(way, k) != NONE;
        }

        /** Which of a WAY's WIRES a WIRE is; NONE if it is none of them. */
        static int hopOn(int way, int w) {
            for (int k = 0; k < MOST_HOPS; k++) {
                if (w != NONE && wireAt(way, k) == w) {
                    return k;
                }
            }
            return NONE;
        }

        private static int shiftOf(int k) {
            return DIGITS - DIGIT - DIGIT * k;
        }

        int atRank(int a, int b, int itsSize, int k) {
            int way = nextBehind(a, b, itsSize, NONE);
            for (int j = 0; j < k && way != NONE; j++) {
                way = nextBehind(a, b, itsSize, way);
            }
            return way;
        }

        /** The first WAY that is ordered behind another one (NONE: the first of all); NONE: no more. */
        int nextBehind(int a, int b, int itsSize, int other) {
            goal = b;
            size = itsSize;
            behind = other;
            least = NONE;
            walk(a, 1 << a, 0, 0, 0);
            return least;
        }

        private void walk(int at, int seen, int late, int row, int depth) {
            if (depth >= MOST_HOPS) {
                return;
            }
            for (int w = 0; w < net.wires; w++) {
                int there = net.to[w];
                if (net.from[w] != at || (seen >> there & 1) == 1) {
                    continue;
                }
                int lateThere = late + net.crossing(w, size);
                int longer = row | w + 1 << shiftOf(depth);
                if (there == goal) {
                    offer(lateThere << DIGITS | longer);
                } else {
                    walk(there, seen | 1 << there, lateThere + net.stayBehind(w), longer, depth + 1);
                }
            }
        }

        private void offer(int way) {
            if (way > behind && (least == NONE || way < least)) {
                least = way;
            }
        }
    }

    private static final class Stream {
        final int size;
        final int period;
        final int[] ways = new int[MOST_CHOICES];
        int choices = 0;
        int choice = NONE;
        int tick = 0;

        Stream(int itsSize, int itsPeriod) {
            size = itsSize;
            period = Math.max(itsPeriod, LEAST_PERIOD);
        }

        void offer(int way) {
            if (choices < MOST_CHOICES) {
                ways[choices] = way;
                choices++;
            }
        }

        int wayOf(int c) {
            return c >= 0 && c < choices ? ways[c] : 0;
        }

        int wayNow() {
            return wayOf(choice);
        }
    }

    /** All STREAMS; sets of them are held as bits of an int. */
    private static final class Streams {
        private final Stream[] all = new Stream[MOST_STREAMS];
        int told = 0;

        int tell(Stream it) {
            if (told >= MOST_STREAMS) {
                return NONE;
            }
            all[told] = it;
            told++;
            return told - 1;
        }

        Stream one(int s) {
            return s >= 0 && s < told ? all[s] : null;
        }

        Stream placedOne(int s) {
            Stream it = one(s);
            return it != null && it.choice != NONE ? it : null;
        }

        int allOfThem() {
            return (1 << told) - 1;
        }

        int withPlace() {
            int set = 0;
            for (int s = 0; s < told; s++) {
                if (placedOne(s) != null) {
                    set |= 1 << s;
                }
            }
            return set;
        }

        int withoutPlace() {
            return allOfThem() & ~withPlace();
        }
    }

    /**
     * A set of TICKS by rests by the CYCLE, in two halves: 120 TICKS would not go into one long.
     * The CYCLE changes only while there are no STREAMS, and so while all sets that are kept are empty.
     */
    private static final class Ring {
        private final Net net;
        private long low = 0;
        private long high = 0;

        Ring(Net itsNet) {
            net = itsNet;
        }

        void clear() {
            low = 0;
            high = 0;
        }

        void fill() {
            low = (1L << net.ticks / 2) - 1;
            high = low;
        }

        boolean has(int tick) {
            int half = net.ticks / 2;
            return ((tick < half ? low >> tick : high >> tick - half) & 1) == 1;
        }

        void include(Ring other) {
            low |= other.low;
            high |= other.high;
        }

        void exclude(Ring other) {
            low &= ~other.low;
            high &= ~other.high;
        }

        /** All TICKS of the other set, each put off by some TICKS. */
        void includePutOff(Ring other, int by) {
            includeTurned(other.low, other.high, by);
        }

        /** Becomes all TICKS that a letter takes that begins at start, and those each period behind. */
        void becomeLetters(int start, int time, int period) {
            clear();
            int half = net.ticks / 2;
            long first = (1L << Math.min(time, half)) - 1;
            long second = (1L << Math.max(time - half, 0)) - 1;
            for (int n = 0; n < lettersOf(period); n++) {
                includeTurned(first, second, start + n * period);
            }
        }

        /** How many letters of a STREAM begin in one CYCLE. */
        int lettersOf(int period) {
            return period > 0 ? net.ticks / period : 0;
        }

        private void includeTurned(long first, long second, int by) {
            int half = net.ticks / 2;
            int rest = by % net.ticks;
            int turn = rest < 0 ? rest + net.ticks : rest;
            boolean over = turn >= half;
            int shift = over ? turn - half : turn;
            long a = over ? second : first;
            long b = over ? first : second;
            long all = (1L << half) - 1;
            low |= (a << shift | b >>> half - shift) & all;
            high |= (b << shift | a >>> half - shift) & all;
        }
    }

    /** Which TICKS of each WIRE the STREAMS have. */
    private static final class Doors {
        private final Net net;
        private final Ring[] taken = new Ring[MOST_WIRES];
        private final Ring letters;
        private final Ring oneMeets;

        Doors(Net itsNet) {
            net = itsNet;
            letters = new Ring(itsNet);
            oneMeets = new Ring(itsNet);
            for (int w = 0; w < MOST_WIRES; w++) {
                taken[w] = new Ring(itsNet);
            }
        }

        void clear() {
            for (int w = 0; w < MOST_WIRES; w++) {
                taken[w].clear();
            }
        }

        /** Gives a STREAM the doors of a PLACE, or takes them back. */
        void hand(Stream s, int way, int tick, boolean given) {
            int start = tick;
            for (int k = 0; k < MOST_HOPS; k++) {
                int w = Ways.wireAt(way, k);
                if (!net.hasWire(w)) {
                    return;
                }
                letters.becomeLetters(start, net.timeOn(w, s.size), s.period);
                if (given) {
                    taken[w].include(letters);
                } else {
                    taken[w].exclude(letters);
                }
                start += net.crossing(w, s.size) + net.stayBehind(w);
            }
        }

        /** Puts into a set all TICKS at which a STREAM's PLACE on a WAY would MEET what is given. */
        void findMeetings(Ring meetings, Stream s, int way) {
            meetings.clear();
            oneMeets.clear();
            int start = 0;
            for (int k = 0; k < MOST_HOPS; k++) {
                int w = Ways.wireAt(way, k);
                if (!net.hasWire(w)) {
                    break;
                }
                int time = net.timeOn(w, s.size);
                if (time > s.period) {
                    meetings.fill();
                    return;
                }
                for (int j = 0; j < time; j++) {
                    oneMeets.includePutOff(taken[w], -(start + j));
                }
                start += net.crossing(w, s.size) + net.stayBehind(w);
            }
            for (int n = 0; n < oneMeets.lettersOf(s.period); n++) {
                meetings.includePutOff(oneMeets, n * s.period);
            }
        }

        /** TICKS from TICK t of a WIRE's clock on till its plain door stays open for a time. */
        int waitFrom(int w, int t, int time) {
            if (!net.hasWire(w)) {
                return NONE;
            }
            int open = 0;
            for (int i = 0; i < net.ticks + time; i++) {
                open = taken[w].has((t + i) % net.ticks) ? 0 : open + 1;
                if (open >= time) {
                    return i + 1 - time;
                }
            }
            return NONE;
        }
    }

    /** Looks for PLANS, and gives the PLACES of the one that it finds. */
    private static final class Planner {
        private final Streams streams;
        private final Doors doors;
        private final Stream[] sought = new Stream[MOST_STREAMS];
        private final Ring[] meetings = new Ring[MOST_STREAMS];
        private final int[] choices = new int[MOST_STREAMS];
        private final int[] ticks = new int[MOST_STREAMS];
        private int many = 0;
        int made = 0;

        Planner(Net itsNet, Streams itsStreams, Doors itsDoors) {
            streams = itsStreams;
            doors = itsDoors;
            for (int level = 0; level < MOST_STREAMS; level++) {
                meetings[level] = new Ring(itsNet);
            }
        }

        void begin() {
            made = 0;
        }

        /**
         * How many STREAMS with a PLACE were fitted anew, the fewest; NONE, or FULL. Of sets that
         * are equally large, that with the least number, then the least next one, .. is the
         * greatest int where its bits are mirrored: so these ints are counted down.
         */
        int fitFewest() {
            int with = streams.withPlace();
            int without = streams.withoutPlace();
            for (int stirred = 0; stirred <= MOST_STIRRED; stirred++) {
                for (int bits = (1 << MOST_STREAMS) - 1; bits >= 0; bits--) {
                    int set = mirrored(bits);
                    if ((set & ~with) != 0 || Integer.bitCount(set) != stirred) {
                        continue;
                    }
                    int answer = fit(set | without);
                    if (answer != NO_PLAN) {
                        return answer == FOUND ? stirred : answer;
                    }
                }
            }
            return NONE;
        }

        private static int mirrored(int bits) {
            int set = 0;
            for (int s = 0; s < MOST_STREAMS; s++) {
                set |= (bits >> MOST_STREAMS - 1 - s & 1) << s;
            }
            return set;
        }

        int fit(int set) {
            doors.clear();
            many = 0;
            for (int s = 0; s < streams.told; s++) {
                if ((set >> s & 1) == 0) {
                    giveDoors(s);
                } else if (many < MOST_STREAMS) {
                    sought[many] = streams.one(s);
                    many++;
                }
            }
            int answer = search(0);
            if (answer == FOUND) {
                keepPlaces();
            }
            showDoors();
            return answer;
        }

        void showDoors() {
            doors.clear();
            for (int s = 0; s < streams.told; s++) {
                giveDoors(s);
            }
        }

        private void giveDoors(int s) {
            Stream it = streams.placedOne(s);
            if (it != null) {
                doors.hand(it, it.wayNow(), it.tick, true);
            }
        }

        private void keepPlaces() {
            for (int level = 0; level < many; level++) {
                Stream it = sought[level];
                if (it != null) {
                    it.choice = choices[level];
                    it.tick = ticks[level];
                }
            }
        }

        private int search(int level) {
            if (level >= many || level >= MOST_STREAMS || sought[level] == null) {
                return FOUND;
            }
            Stream it = sought[level];
            for (int c = 0; c < it.choices; c++) {
                choices[level] = c;
                doors.findMeetings(meetings[level], it, it.wayOf(c));
                int answer = searchTicks(level, it, it.wayOf(c));
                if (answer != NO_PLAN) {
                    return answer;
                }
            }
            return NO_PLAN;
        }

        private int searchTicks(int level, Stream it, int way) {
            for (int tick = 0; tick < it.period; tick++) {
                if (made >= MOST_TRIES) {
                    return FULL;
                }
                made++;
                if (meetings[level].has(tick)) {
                    continue;
                }
                ticks[level] = tick;
                doors.hand(it, way, tick, true);
                int answer = search(level + 1);
                if (answer != NO_PLAN) {
                    return answer;
                }
                doors.hand(it, way, tick, false);
            }
            return NO_PLAN;
        }
    }

    /** A plain letter, and what becomes of it; TICKS that are not ahead of END are END or more. */
    private static final class Letter {
        final int sent;
        final int from;
        final int to;
        final int size;
        final int[] waited = new int[MOST_HOPS];
        final int[] begun = new int[MOST_HOPS];
        int way = 0;
        int hop = 0;
        int end = END;

        Letter(int itsTick, int itsFrom, int itsTo, int itsSize) {
            sent = itsTick;
            from = itsFrom;
            to = itsTo;
            size = itsSize;
        }

        void setOut(int itsWay) {
            way = itsWay;
            hop = 0;
            end = END;
            for (int k = 0; k < MOST_HOPS; k++) {
                waited[k] = END;
                begun[k] = END;
            }
            waited[0] = sent;
        }

        int nextWire() {
            return Ways.wireAt(way, hop);
        }

        int readyAt() {
            return hop < MOST_HOPS ? waited[hop] : END;
        }

        /** Whether it begins ahead of one of a lesser number that goes by the same WIRE next. */
        boolean goesAheadOf(Letter other) {
            return other == null || readyAt() < other.readyAt();
        }

        /** The TICK from which on it waits for a WIRE; END if it does not go by it. */
        int readyFor(int w) {
            int k = Ways.hopOn(way, w);
            return k == NONE ? END : waited[k];
        }

        boolean waitsFor(int w, int t) {
            int k = Ways.hopOn(way, w);
            return k != NONE && waited[k] <= t && t < begun[k];
        }
    }

    /**
     * All plain letters. What they do is found begin by begin, always the earliest of all WIRES:
     * a letter that is yet to begin elsewhere can't be in time to go ahead of it.
     */
    private static final class Post {
        private final Net net;
        private final Ways ways;
        private final Doors doors;
        private final Letter[] letters = new Letter[MOST_LETTERS];
        private final Letter[] heads = new Letter[MOST_WIRES];
        private final int[] headBegins = new int[MOST_WIRES];
        private final int[] freeFrom = new int[MOST_WIRES];
        int told = 0;
        boolean stale = false;

        Post(Net itsNet, Ways itsWays, Doors itsDoors) {
            net = itsNet;
            ways = itsWays;
            doors = itsDoors;
        }

        int tell(Letter it) {
            if (told >= MOST_LETTERS) {
                return NONE;
            }
            letters[told] = it;
            told++;
            stale = true;
            return told - 1;
        }

        Letter letter(int l) {
            return l >= 0 && l < told ? letters[l] : null;
        }

        void settle() {
            if (!stale) {
                return;
            }
            stale = false;
            setOutAll();
            for (int step = 0; step < MOST_LETTERS * MOST_HOPS; step++) {
                int w = earliestWire();
                if (w == NONE) {
                    return;
                }
                beginOn(w);
            }
        }

        private void setOutAll() {
            for (int l = 0; l < told; l++) {
                Letter it = letter(l);
                if (it != null) {
                    it.setOut(Math.max(ways.nextBehind(it.from, it.to, it.size, NONE), 0));
                }
            }
            for (int w = 0; w < net.wires; w++) {
                freeFrom[w] = 0;
                findHead(w);
            }
        }

        private void findHead(int w) {
            Letter head = null;
            for (int l = 0; l < told; l++) {
                Letter it = letter(l);
                if (it != null && it.nextWire() == w && it.goesAheadOf(head)) {
                    head = it;
                }
            }
            heads[w] = head;
            headBegins[w] = head == null ? END : beginOf(head, w);
        }

        private int beginOf(Letter it, int w) {
            int from = Math.max(it.readyAt(), freeFrom[w]);
            int shown = Math.floorMod(from - net.offAt(w), net.ticks);
            int wait = doors.waitFrom(w, shown, net.timeOn(w, it.size));
            return wait == NONE ? END : Math.min(from + wait, END);
        }

        private int earliestWire() {
            int earliest = NONE;
            int least = END;
            for (int w = 0; w < net.wires; w++) {
                if (headBegins[w] < least) {
                    least = headBegins[w];
                    earliest = w;
                }
            }
            return earliest;
        }

        private void beginOn(int w) {
            Letter it = heads[w];
            if (it == null || it.hop >= MOST_HOPS) {
                return;
            }
            int begin = headBegins[w];
            int there = begin + net.crossing(w, it.size);
            it.begun[it.hop] = begin;
            it.hop++;
            freeFrom[w] = begin + net.timeOn(w, it.size);
            findHead(w);
            int next = it.nextWire();
            if (!net.hasWire(next)) {
                it.end = there;
                return;
            }
            it.waited[it.hop] = there + net.holdBehind(w);
            findHead(next);
        }

        int longestRow(int w) {
            int longest = 0;
            for (int l = 0; l < told; l++) {
                Letter it = letter(l);
                if (it != null) {
                    longest = Math.max(longest, waitingAt(w, it.readyFor(w)));
                }
            }
            return longest;
        }

        private int waitingAt(int w, int t) {
            int waiting = 0;
            for (int l = 0; l < told; l++) {
                Letter it = letter(l);
                if (it != null && t < END && it.waitsFor(w, t)) {
                    waiting++;
                }
            }
            return waiting;
        }

        int ended() {
            int many = 0;
            for (int l = 0; l < told; l++) {
                Letter it = letter(l);
                if (it != null && it.end < END) {
                    many++;
                }
            }
            return many;
        }
    }
}
