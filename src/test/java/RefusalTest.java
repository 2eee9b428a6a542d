/**
 * Each refused call that the document names, one by one: its answer, and that nothing happens. For
 * that, a net on which it was made is held against its twin on which it was not.
 */
public final class RefusalTest {
    private static final int LOW = Integer.MIN_VALUE;
    private static final int HIGH = Integer.MAX_VALUE;

    private final Check check = new Check();

    private interface Call {
        long on(DoorNet x);
    }

    private interface Build {
        DoorNet make();
    }

    public static void main(String[] args) {
        RefusalTest test = new RefusalTest();
        test.boxSixAreThere();
        test.boxNoSuchHold();
        test.wireTwelveAreThere();
        test.wireNoSuchBoxes();
        test.wireOneAndTheSame();
        test.wireNoSuchLengthOrSpeed();
        test.wireBesideStreamsOrLetters();
        test.cycleOfOthers();
        test.cycleBesideStreams();
        test.driftOfOthers();
        test.driftBesideStreams();
        test.streamEightAreThere();
        test.streamNoSuchBoxes();
        test.streamNoSuchSizePeriodLatest();
        test.streamWithoutAChoice();
        test.strikeNoneSuch();
        test.strikeWithoutAPlace();
        test.planOfTooMany();
        test.planFull();
        test.addOfTooMany();
        test.addFull();
        test.stirNoSuchSet();
        test.stirFull();
        test.clockNoSuchBox();
        test.clockBeyondTheDrift();
        test.sendSixtyAreThere();
        test.sendNoSuchOnes();
        test.sendWithoutAWay();
        test.questionsChangeNothing();
        test.check.end();
    }

    /** Makes a call on one of two nets that are alike, and looks for what it has changed there. */
    private void refused(String call, Build build, Call it, long due) {
        DoorNet x = build.make();
        DoorNet y = build.make();
        check.due(call, it.on(x), due);
        String told = readOut(x);
        check.due(call + ": nothing happens", told.equals(readOut(y)), true);
    }

    private static long bit(boolean it) {
        return it ? 1 : 0;
    }

    /** All that can be asked within the 512 calls of an object. */
    private static String readOut(DoorNet x) {
        StringBuilder text = new StringBuilder();
        text.append(x.tries());
        for (int what = 0; what < 8; what++) {
            text.append(' ').append(x.count(what));
        }
        readWires(x, text);
        readStreams(x, text);
        for (int l = 0; l < x.count(6); l++) {
            text.append(' ').append(x.plain(l, 1));
        }
        // What comes next shows numbers, clocks, the drift and the cycle once more.
        text.append(' ').append(x.send(3, 0, 1, 2)).append(' ').append(x.plain(x.count(6) - 1, 20));
        text.append(' ').append(x.stream(0, 1, 1, 12, 200)).append(' ').append(x.add());
        text.append(' ').append(x.leaves(x.count(4) - 1, 1, 0));
        return text.append(' ').append(x.box(1)).toString();
    }

    private static void readWires(DoorNet x, StringBuilder text) {
        int wires = x.count(1);
        int ticks = Math.min(12, x.count(2));
        for (int w = 0; w < wires; w++) {
            for (int t = 0; t < ticks; t++) {
                text.append(' ').append(x.door(w, t));
            }
            text.append(' ').append(x.waits(w, 0, 1)).append(' ').append(x.most(w));
        }
        text.append(' ').append(x.way(0, 1, 1, 0, 4)).append(' ').append(x.way(0, 2, 1, 0, 4));
    }

    private static void readStreams(DoorNet x, StringBuilder text) {
        for (int s = 0; s < x.count(4); s++) {
            for (int what : new int[] {0, 1, 2, 3, 10, 20, 21}) {
                text.append(' ').append(x.place(s, what));
            }
            text.append(' ').append(x.leaves(s, 1, 0)).append(' ').append(x.leaves(s, 0, 9));
        }
    }

    /** Three boxes, wires 0 to 1, 1 to 2 and 0 to 2; clocks that are off; neither streams nor letters. */
    private static DoorNet laid() {
        DoorNet x = Nets.boxes(3, 2);
        x.wire(0, 1, 1, 1);
        x.wire(1, 2, 2, 2);
        x.wire(0, 2, 9, 3);
        x.cycle(24);
        x.drift(2);
        x.clock(0, 1);
        x.clock(1, -2);
        return x;
    }

    /** The same net with a stream that has a place, one that has none, and two letters. */
    private static DoorNet used() {
        DoorNet x = laid();
        x.stream(0, 2, 2, 12, 200);
        x.stream(0, 1, 3, 24, 200);
        x.plan();
        x.stream(1, 2, 2, 24, 200);
        x.strike(1);
        x.send(0, 0, 2, 2);
        x.send(1, 0, 1, 3);
        return x;
    }

    /** All that there may be: 6 boxes, 12 wires, 8 streams, 60 letters. */
    private static DoorNet crowded() {
        DoorNet x = Nets.boxes(6, 1);
        for (int w = 0; w < 12; w++) {
            x.wire(w / 2 % 5, w / 2 % 5 + 1, w % 3, 1);
        }
        for (int s = 0; s < 8; s++) {
            x.stream(s % 5, s % 5 + 1, 2, 12, 200);
        }
        x.plan();
        x.strike(6);
        for (int l = 0; l < 60; l++) {
            x.send(l, l % 5, l % 5 + 1, 1 + l % 3);
        }
        return x;
    }

    private void boxSixAreThere() {
        check.promise("promise 2: 'NONE, and nothing happens: 6 are there'");
        refused("box(0)", RefusalTest::crowded, x -> x.box(0), -1);
        refused("box(5)", () -> Nets.boxes(6, 1), x -> x.box(5), -1);
    }

    private void boxNoSuchHold() {
        check.promise("promise 2: 'NONE, and nothing happens: .. no such HOLD'");
        for (int hold : new int[] {-1, 6, LOW, HIGH}) {
            refused("box(" + hold + ")", RefusalTest::used, x -> x.box(hold), -1);
            refused("box(" + hold + ")", DoorNet::new, x -> x.box(hold), -1);
        }
    }

    private void wireTwelveAreThere() {
        check.promise("promise 3: 'NONE, and nothing happens: 12 are there'");
        refused("wire(0, 1, 0, 1)", () -> Nets.wires(12, 1, 1), x -> x.wire(0, 1, 0, 1), -1);
        refused("wire(1, 0, 0, 1)", () -> Nets.wires(12, 1, 1), x -> x.wire(1, 0, 0, 1), -1);
        check.due("a twelfth", Nets.wires(11, 1, 1).wire(0, 1, 0, 1), 11);
    }

    private void wireNoSuchBoxes() {
        check.promise("promise 3: 'no such BOXES'");
        for (int b : new int[] {-1, 3, 6, LOW, HIGH}) {
            refused("wire(" + b + ", 0, 1, 1)", RefusalTest::laid, x -> x.wire(b, 0, 1, 1), -1);
            refused("wire(0, " + b + ", 1, 1)", RefusalTest::laid, x -> x.wire(0, b, 1, 1), -1);
        }
        refused("wire(0, 1, 1, 1)", DoorNet::new, x -> x.wire(0, 1, 1, 1), -1);
        check.due("the last box", laid().wire(2, 0, 1, 1), 3);
    }

    private void wireOneAndTheSame() {
        check.promise("promise 3: 'one and the same'");
        for (int b = 0; b < 3; b++) {
            int box = b;
            refused("wire(" + b + ", " + b + ", 1, 1)", RefusalTest::laid, x -> x.wire(box, box, 1, 1), -1);
        }
    }

    private void wireNoSuchLengthOrSpeed() {
        check.promise("promise 3: 'no such LENGTH, SPEED'");
        for (int length : new int[] {-1, 10, LOW, HIGH}) {
            refused("wire(1, 0, " + length + ", 1)", RefusalTest::laid, x -> x.wire(1, 0, length, 1), -1);
        }
        for (int speed : new int[] {-1, 0, 4, LOW, HIGH}) {
            refused("wire(1, 0, 1, " + speed + ")", RefusalTest::laid, x -> x.wire(1, 0, 1, speed), -1);
        }
    }

    private void wireBesideStreamsOrLetters() {
        check.promise("promise 3: 'STREAMS or plain letters are there'");
        refused("beside both", RefusalTest::used, x -> x.wire(1, 0, 1, 1), -1);
        Build streamAlone = () -> {
            DoorNet x = laid();
            x.stream(0, 1, 1, 12, 50);
            return x;
        };
        refused("beside a stream without a place", streamAlone, x -> x.wire(1, 0, 1, 1), -1);
        Build letterAlone = () -> {
            DoorNet x = laid();
            x.send(999, 0, 1, 1);
            return x;
        };
        refused("beside a letter", letterAlone, x -> x.wire(1, 0, 1, 1), -1);
        check.due("beside neither", laid().wire(1, 0, 1, 1), 3);
    }

    private void cycleOfOthers() {
        check.promise("promise 4: 'false, and nothing happens, for others'");
        for (int h : new int[] {0, -12, 11, 13, 36, 72, 96, 119, 121, 240, LOW, HIGH}) {
            refused("cycle(" + h + ")", RefusalTest::laid, x -> bit(x.cycle(h)), 0);
        }
    }

    private void cycleBesideStreams() {
        check.promise("promise 4: 'or if there are STREAMS'");
        for (int h : new int[] {12, 24, 48, 60, 120}) {
            refused("cycle(" + h + ")", RefusalTest::used, x -> bit(x.cycle(h)), 0);
        }
        Build struck = () -> {
            DoorNet x = Nets.row(3);
            x.strike(0);
            return x;
        };
        refused("cycle(24) beside one that is struck", struck, x -> bit(x.cycle(24)), 0);
    }

    private void driftOfOthers() {
        check.promise("promise 5: 'false, and nothing happens, for others': clocks stay off");
        for (int d : new int[] {-1, 4, LOW, HIGH}) {
            refused("drift(" + d + ")", RefusalTest::laid, x -> bit(x.drift(d)), 0);
        }
        DoorNet y = laid();
        check.due("drift(3) is none of them", y.drift(3), true);
        check.due("and is seen", readOut(y).equals(readOut(laid())), false);
    }

    private void driftBesideStreams() {
        check.promise("promise 5: 'or if there are STREAMS': clocks stay off");
        for (int d = 0; d <= 3; d++) {
            int told = d;
            refused("drift(" + d + ")", RefusalTest::used, x -> bit(x.drift(told)), 0);
        }
        Build oneAlone = () -> {
            DoorNet x = laid();
            x.stream(0, 1, 1, 12, 50);
            return x;
        };
        refused("drift(2) beside one without a place", oneAlone, x -> bit(x.drift(2)), 0);
    }

    private void streamEightAreThere() {
        check.promise("promise 7: 'NONE, and nothing happens: 8 are there'");
        refused("stream(0, 1, 1, 12, 200)", RefusalTest::crowded, x -> x.stream(0, 1, 1, 12, 200), -1);
        refused("one without a choice", RefusalTest::crowded, x -> x.stream(1, 0, 1, 12, 200), -1);
    }

    private void streamNoSuchBoxes() {
        check.promise("promise 7: 'no such BOXES, one and the same'");
        for (int b : new int[] {-1, 3, 6, LOW, HIGH}) {
            refused("from " + b, RefusalTest::used, x -> x.stream(b, 1, 1, 12, 200), -1);
            refused("to " + b, RefusalTest::used, x -> x.stream(0, b, 1, 12, 200), -1);
        }
        for (int b = 0; b < 3; b++) {
            int box = b;
            refused("from " + b + " to itself", RefusalTest::used, x -> x.stream(box, box, 1, 12, 200), -1);
        }
    }

    private void streamNoSuchSizePeriodLatest() {
        check.promise("promise 7: 'no such SIZE, PERIOD, LATEST'");
        for (int size : new int[] {-1, 0, 9, LOW, HIGH}) {
            refused("size " + size, RefusalTest::used, x -> x.stream(0, 1, size, 12, 200), -1);
        }
        for (int period : new int[] {-12, -1, 0, 1, 5, 7, 16, 23, 25, 48, LOW, HIGH}) {
            refused("period " + period, RefusalTest::used, x -> x.stream(0, 1, 1, period, 200), -1);
        }
        for (int latest : new int[] {-1, 0, 201, LOW, HIGH}) {
            refused("latest " + latest, RefusalTest::used, x -> x.stream(0, 1, 1, 12, latest), -1);
        }
        refused("a wrong size and no choice", RefusalTest::used, x -> x.stream(2, 0, 9, 12, 200), -1);
        refused("a wrong period and no choice", RefusalTest::used, x -> x.stream(2, 0, 1, 1, 200), -1);
        refused("a wrong latest and no choice", RefusalTest::used, x -> x.stream(2, 0, 1, 12, 201), -1);
    }

    private void streamWithoutAChoice() {
        check.promise("promise 7: '-2: it would have no CHOICE'");
        refused("no way", RefusalTest::used, x -> x.stream(2, 0, 1, 12, 200), -2);
        // From 0 to 1 a letter of size 8 is 9 late.
        refused("later than its latest by one", RefusalTest::used, x -> x.stream(0, 1, 8, 12, 8), -2);
        check.due("just in time", used().stream(0, 1, 8, 12, 9), 3);
    }

    private void strikeNoneSuch() {
        check.promise("promise 8: 'false: there is none such'");
        for (int s : new int[] {-1, 3, 8, LOW, HIGH}) {
            refused("strike(" + s + ")", RefusalTest::used, x -> bit(x.strike(s)), 0);
        }
        for (int s : new int[] {-1, 8, 9}) {
            refused("strike(" + s + ") of eight", RefusalTest::crowded, x -> bit(x.strike(s)), 0);
        }
        refused("strike(0) without streams", RefusalTest::laid, x -> bit(x.strike(0)), 0);
    }

    private void strikeWithoutAPlace() {
        check.promise("promise 8: 'or it had none'");
        refused("strike(2), never placed", RefusalTest::used, x -> bit(x.strike(2)), 0);
        refused("strike(1), struck", RefusalTest::used, x -> bit(x.strike(1)), 0);
        check.due("strike(0)", used().strike(0), true);
    }

    /** Streams of 4 and 3 ticks with a place on a wire of 12, and of 5 and 1 that are one too many. */
    private static DoorNet tooMany() {
        DoorNet x = Nets.row(4, 3);
        x.stream(0, 1, 5, 12, 200);
        x.stream(0, 1, 1, 12, 200);
        x.send(0, 0, 1, 2);
        return x;
    }

    /** The answer due, tries, and all else as on the twin. */
    private void unfitted(String call, Build build, Call it, long due, int tries) {
        DoorNet x = build.make();
        DoorNet y = build.make();
        check.due(call, it.on(x), due);
        check.due(call + ": tries()", x.tries(), tries);
        StringBuilder told = new StringBuilder();
        StringBuilder twin = new StringBuilder();
        readWires(x, told);
        readStreams(x, told);
        readWires(y, twin);
        readStreams(y, twin);
        for (int l = 0; l < x.count(6); l++) {
            told.append(' ').append(x.plain(l, 20));
            twin.append(' ').append(y.plain(l, 20));
        }
        check.due(call + ": all stays", told.toString().equals(twin.toString()), true);
        check.due(call + ": count(5)", x.count(5), y.count(5));
    }

    private void planOfTooMany() {
        check.promise("promise 9: '0, and all stays: there is none'");
        // 4 stands anywhere, 3 beside it at six ticks, 5 only where 3 is next to 4, and 1 nowhere.
        unfitted("plan()", RefusalTest::tooMany, DoorNet::plan, 0, 12 + 12 * 12 + 12 * 6 * 12 + 12 * 2 * 12);
        Build itself = () -> {
            DoorNet y = Nets.oneWire(0, 3);
            y.stream(0, 1, 1, 12, 50);
            y.plan();
            y.stream(0, 1, 8, 12, 50);
            return y;
        };
        unfitted("plan() with one that meets itself", itself, DoorNet::plan, 0, 12 + 12 * 12);
    }

    /** Streams each 120 ticks, the first of them with a place, and one that would need the whole wire. */
    private static DoorNet tooLong() {
        DoorNet x = Nets.oneWire(0, 1);
        x.cycle(120);
        x.stream(0, 1, 1, 120, 50);
        x.plan();
        x.stream(0, 1, 1, 120, 50);
        x.stream(0, 1, 1, 120, 50);
        x.stream(0, 1, 2, 2, 50);
        x.send(0, 0, 1, 2);
        return x;
    }

    private void planFull() {
        check.promise("promise 9: '-2, and all stays: FULL'");
        unfitted("plan()", RefusalTest::tooLong, DoorNet::plan, -2, 40000);
    }

    private void addOfTooMany() {
        check.promise("promise 10: '0 .. as plan()'");
        // 5 ticks are free, just enough for the first; then none of 12 is left for the second.
        unfitted("add()", RefusalTest::tooMany, DoorNet::add, 0, 12 + 12);
    }

    private void addFull() {
        check.promise("promise 10: '-2 as plan()'");
        // 120 + 119 * 120 + 119 * 118 * 2 would be 42,484.
        unfitted("add()", RefusalTest::tooLong, DoorNet::add, -2, 40000);
    }

    private void stirNoSuchSet() {
        check.promise("promise 11: 'NONE, and all stays: no such set'");
        // None, {0}, {1}, and {0, 1} as plan()
        int one = 12 + 6 * 12 + 2 * 12;
        unfitted("stir()", RefusalTest::tooMany, DoorNet::stir, -1, 24 + 2 * one + 1308);
    }

    private void stirFull() {
        check.promise("promise 11: '-2, and all stays: FULL'");
        unfitted("stir()", RefusalTest::tooLong, DoorNet::stir, -2, 40000);
        // The empty set comes to an end; the set {0} does not.
        Build setTooLong = () -> {
            DoorNet y = Nets.oneWire(0, 1);
            y.cycle(120);
            y.stream(0, 1, 1, 120, 50);
            y.plan();
            y.stream(0, 1, 1, 120, 50);
            y.stream(0, 1, 2, 2, 50);
            y.stream(0, 1, 1, 12, 50);
            return y;
        };
        DoorNet z = setTooLong.make();
        check.due("add()", z.add(), 0);
        check.due("tries()", z.tries(), 120 + 119 * 2);
        // 358, and with {0} 120 + 120 * 120 + 120 * 119 * 2, together 43,438
        unfitted("stir()", setTooLong, DoorNet::stir, -2, 40000);
    }

    private void clockNoSuchBox() {
        check.promise("promise 17: 'false: no such BOX'");
        for (int b : new int[] {-1, 3, 6, LOW, HIGH}) {
            refused("clock(" + b + ", 1)", RefusalTest::used, x -> bit(x.clock(b, 1)), 0);
        }
        refused("clock(0, 0) without boxes", DoorNet::new, x -> bit(x.clock(0, 0)), 0);
    }

    private void clockBeyondTheDrift() {
        check.promise("promise 17: 'e is not - DRIFT .. DRIFT'");
        for (int e : new int[] {-3, 3, LOW, HIGH}) {
            refused("clock(0, " + e + ")", RefusalTest::used, x -> bit(x.clock(0, e)), 0);
        }
        check.due("clock(0, -2)", used().clock(0, -2), true);
        check.due("clock(0, 2)", used().clock(0, 2), true);
    }

    private void sendSixtyAreThere() {
        check.promise("promise 18: 'NONE, and nothing happens: 60 are there'");
        refused("send(0, 0, 1, 1)", RefusalTest::crowded, x -> x.send(0, 0, 1, 1), -1);
        refused("one without a way", RefusalTest::crowded, x -> x.send(0, 1, 0, 1), -1);
    }

    private void sendNoSuchOnes() {
        check.promise("promise 18: 'no such TICK, BOXES, one and the same, SIZE'");
        for (int tick : new int[] {-1, 1000, LOW, HIGH}) {
            refused("tick " + tick, RefusalTest::used, x -> x.send(tick, 0, 1, 1), -1);
            refused("tick " + tick + " without a way", RefusalTest::used, x -> x.send(tick, 2, 0, 1), -1);
        }
        for (int b : new int[] {-1, 3, 6, LOW, HIGH}) {
            refused("from " + b, RefusalTest::used, x -> x.send(0, b, 1, 1), -1);
            refused("to " + b, RefusalTest::used, x -> x.send(0, 1, b, 1), -1);
        }
        for (int b = 0; b < 3; b++) {
            int box = b;
            refused("from " + b + " to itself", RefusalTest::used, x -> x.send(0, box, box, 1), -1);
        }
        for (int size : new int[] {-1, 0, 9, LOW, HIGH}) {
            refused("size " + size, RefusalTest::used, x -> x.send(0, 0, 1, size), -1);
            refused("size " + size + " without a way", RefusalTest::used, x -> x.send(0, 2, 0, size), -1);
        }
    }

    private void sendWithoutAWay() {
        check.promise("promise 18: '-2: there is no WAY'");
        refused("send(0, 2, 0, 1)", RefusalTest::used, x -> x.send(0, 2, 0, 1), -2);
        refused("send(999, 1, 0, 8)", RefusalTest::used, x -> x.send(999, 1, 0, 8), -2);
    }

    private void questionsChangeNothing() {
        check.promise("questions change nothing");
        int[] any = {LOW, -1, 0, 1, 2, 4, 9, 21, 31, HIGH};
        for (int a : any) {
            for (int b : any) {
                refused("questions of " + a + " and " + b, RefusalTest::used, x -> ask(x, a, b), 0);
            }
        }
    }

    private static long ask(DoorNet x, int a, int b) {
        x.way(a, b, 1, 0, 0);
        x.way(0, 1, a, b, 0);
        x.way(0, 2, 1, a, b);
        x.place(a, b);
        x.tries();
        x.door(a, b);
        x.waits(a, b, 1);
        x.waits(0, a, b);
        x.worst(a, b);
        x.leaves(a, b, 0);
        x.leaves(0, a, b);
        x.room(a, b, 1);
        x.room(0, a, b);
        x.plain(a, b);
        x.most(a);
        x.count(a);
        return 0;
    }
}
