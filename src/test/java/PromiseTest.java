/** Each promise of the document by itself: ordinary calls, its edges, and wrong inputs. */
public final class PromiseTest {
    private static final int LOW = Integer.MIN_VALUE;
    private static final int HIGH = Integer.MAX_VALUE;

    private final Check check = new Check();

    public static void main(String[] args) {
        PromiseTest test = new PromiseTest();
        test.newObject();
        test.box();
        test.wire();
        test.cycle();
        test.drift();
        test.way();
        test.wayOrder();
        test.wayLimits();
        test.stream();
        test.streamChoices();
        test.strike();
        test.plan();
        test.planGoesBack();
        test.planFull();
        test.planAllButFull();
        test.add();
        test.stir();
        test.stirMoreThanOne();
        test.place();
        test.tries();
        test.door();
        test.doorOfCycle48();
        test.waits();
        test.worst();
        test.clock();
        test.send();
        test.leaves();
        test.room();
        test.plain();
        test.plainOrder();
        test.plainAsToldNow();
        test.plainOfManyWires();
        test.plainTooLate();
        test.plainJustInTime();
        test.most();
        test.count();
        test.anyNumbers();
        test.check.end();
    }

    private void newObject() {
        check.promise("promise 1, a new object");
        DoorNet x = new DoorNet();
        int[] due = {0, 0, 12, 0, 0, 0, 0, 0};
        for (int what = 0; what < due.length; what++) {
            check.due("count(" + what + ")", x.count(what), due[what]);
        }
        check.due("NONE", DoorNet.NONE, -1);
        check.due("way(0, 1, 1, 0, 0)", x.way(0, 1, 1, 0, 0), -1);
        check.due("wire(0, 1, 1, 1)", x.wire(0, 1, 1, 1), -1);
        check.due("stream(0, 1, 1, 12, 9)", x.stream(0, 1, 1, 12, 9), -1);
        check.due("send(0, 0, 1, 1)", x.send(0, 0, 1, 1), -1);
        check.due("most(0)", x.most(0), -1);
        check.due("clock(0, 0)", x.clock(0, 0), false);
        DoorNet y = new DoorNet();
        x.box(1);
        check.due("count(0) of another object", y.count(0), 0);
    }

    private void box() {
        check.promise("promise 2, box");
        DoorNet x = new DoorNet();
        for (int hold : new int[] {-1, 6, LOW, HIGH}) {
            check.due("box(" + hold + ")", x.box(hold), -1);
        }
        for (int b = 0; b < 6; b++) {
            check.due("box(" + b + ")", x.box(b), b);
        }
        check.due("a seventh box", x.box(0), -1);
        check.due("count(0)", x.count(0), 6);
        DoorNet y = Nets.oneWire(0, 1);
        y.stream(0, 1, 1, 12, 50);
        y.send(0, 0, 1, 1);
        check.due("box(3) beside streams and letters", y.box(3), 2);
    }

    private void wire() {
        check.promise("promise 3, wire");
        DoorNet x = new DoorNet();
        x.box(0);
        x.box(0);
        int[][] wrong = {{0, 2, 1, 1}, {2, 0, 1, 1}, {-1, 0, 1, 1}, {0, -1, 1, 1}, {1, 1, 1, 1}, {0, 1, -1, 1},
            {0, 1, 10, 1}, {0, 1, 1, 0}, {0, 1, 1, 4}, {LOW, HIGH, 1, 1}, {0, 1, LOW, 1}, {0, 1, 1, HIGH}};
        for (int[] w : wrong) {
            check.due("a wrong wire", x.wire(w[0], w[1], w[2], w[3]), -1);
        }
        check.due("count(1)", x.count(1), 0);
        check.due("wire(0, 1, 0, 1)", x.wire(0, 1, 0, 1), 0);
        check.due("wire(0, 1, 9, 3)", x.wire(0, 1, 9, 3), 1);
        for (int w = 2; w < 12; w++) {
            check.due("one wire more", x.wire(w % 2, 1 - w % 2, 1, 1), w);
        }
        check.due("a thirteenth wire", x.wire(0, 1, 1, 1), -1);
        check.due("count(1)", x.count(1), 12);
        DoorNet y = Nets.oneWire(0, 1);
        y.stream(0, 1, 1, 12, 50);
        check.due("wire beside a stream", y.wire(0, 1, 0, 1), -1);
        DoorNet z = Nets.oneWire(0, 1);
        z.send(0, 0, 1, 1);
        check.due("wire beside a plain letter", z.wire(0, 1, 0, 1), -1);
    }

    private void cycle() {
        check.promise("promise 4, cycle");
        DoorNet x = Nets.oneWire(0, 1);
        for (int h : new int[] {24, 48, 60, 120, 12}) {
            check.due("cycle(" + h + ")", x.cycle(h), true);
            check.due("count(2)", x.count(2), h);
        }
        for (int h : new int[] {0, -12, 6, 13, 36, 240, LOW, HIGH}) {
            check.due("cycle(" + h + ")", x.cycle(h), false);
        }
        check.due("count(2)", x.count(2), 12);
        x.send(0, 0, 1, 1);
        check.due("cycle(24) beside a letter", x.cycle(24), true);
        x.stream(0, 1, 1, 24, 50);
        check.due("cycle(24) beside a stream", x.cycle(24), false);
        check.due("cycle(12) beside a stream", x.cycle(12), false);
        check.due("count(2)", x.count(2), 24);
    }

    private void drift() {
        check.promise("promise 5, drift");
        DoorNet x = Nets.oneWire(0, 1);
        for (int d = 3; d >= 0; d--) {
            check.due("drift(" + d + ")", x.drift(d), true);
            check.due("count(3)", x.count(3), d);
        }
        for (int d : new int[] {-1, 4, LOW, HIGH}) {
            check.due("drift(" + d + ")", x.drift(d), false);
        }
        x.drift(2);
        x.clock(0, 2);
        check.due("drift(4)", x.drift(4), false);
        x.stream(0, 1, 1, 12, 50);
        x.add();
        check.due("leaves: a refused drift rights no clock", x.leaves(0, 0, 0), 2);
        check.due("drift(2) beside a stream", x.drift(2), false);
        check.due("leaves", x.leaves(0, 0, 0), 2);
        DoorNet y = Nets.oneWire(0, 1);
        y.drift(2);
        y.clock(0, 2);
        check.due("drift(2) again", y.drift(2), true);
        y.stream(0, 1, 1, 12, 50);
        y.add();
        check.due("leaves: the clock is right again", y.leaves(0, 0, 0), 0);
    }

    private void way() {
        check.promise("promise 6, way");
        DoorNet x = Nets.chain(6, 1, 2, 3);
        check.due("way over four wires", x.way(0, 4, 1, 0, 3), 3);
        // 4 times (1 * 3 + 2) and three holds
        check.due("its lateness", x.way(0, 4, 1, 0, 4), 23);
        check.due("way over five wires", x.way(0, 5, 1, 0, 4), -1);
        check.due("way the wrong way round", x.way(1, 0, 1, 0, 4), -1);
        x.drift(3);
        check.due("lateness with drift", x.way(0, 4, 8, 0, 4), 4 * 26 + 3 * 7);
        check.due("lateness over one wire", x.way(2, 3, 8, 0, 4), 26);
        check.due("no second wire", x.way(2, 3, 8, 0, 1), -1);
        int[][] wrong = {{-1, 1, 1, 0, 0}, {0, 6, 1, 0, 0}, {0, 1, 0, 0, 0}, {0, 1, 9, 0, 0}, {0, 1, 1, -1, 0},
            {0, 1, 1, 1, 0}, {0, 1, 1, 0, -1}, {0, 1, 1, 0, 5}, {0, 0, 1, 0, 4}, {0, 1, 1, HIGH, 0}, {0, 1, 1, LOW, 0},
            {0, 1, 1, 0, HIGH}, {0, 1, 1, 0, LOW}, {LOW, HIGH, 1, 0, 0}, {0, 1, HIGH, 0, 0}};
        for (int[] w : wrong) {
            check.due("a wrong way", x.way(w[0], w[1], w[2], w[3], w[4]), -1);
        }
    }

    private void wayOrder() {
        check.promise("promise 6, the order of ways");
        DoorNet x = new DoorNet();
        x.box(0);
        x.box(1);
        x.box(0);
        x.wire(1, 2, 1, 1);
        x.wire(1, 2, 1, 1);
        x.wire(0, 1, 1, 1);
        x.wire(0, 2, 4, 1);
        x.wire(0, 1, 0, 1);
        x.wire(2, 0, 0, 1);
        x.wire(1, 0, 0, 1);
        int[][] due = {{4, 0, 4}, {4, 1, 4}, {2, 0, 5}, {2, 1, 5}, {3, -1, 5}};
        for (int k = 0; k < due.length; k++) {
            check.due("way " + k + ", first wire", x.way(0, 2, 1, k, 0), due[k][0]);
            check.due("way " + k + ", second wire", x.way(0, 2, 1, k, 1), due[k][1]);
            check.due("way " + k + ", lateness", x.way(0, 2, 1, k, 4), due[k][2]);
        }
        check.due("a sixth way", x.way(0, 2, 1, 5, 0), -1);
        check.due("for a larger size the direct one is first", x.way(0, 2, 3, 0, 0), 3);
        check.due("no way from a box to itself", x.way(0, 0, 1, 0, 0), -1);
    }

    private void wayLimits() {
        check.promise("promise 6, many ways");
        DoorNet x = new DoorNet();
        for (int b = 0; b < 5; b++) {
            x.box(0);
        }
        for (int w = 0; w < 12; w++) {
            x.wire(w / 3, w / 3 + 1, 0, 1);
        }
        check.due("the last of 81 ways", x.way(0, 4, 1, 80, 0), 2);
        check.due("its last wire", x.way(0, 4, 1, 80, 3), 11);
        check.due("the 41st way, third wire", x.way(0, 4, 1, 40, 2), 7);
        check.due("an 82nd way", x.way(0, 4, 1, 81, 0), -1);
        check.due("far behind them", x.way(0, 4, 1, 100000, 4), -1);
    }

    private void stream() {
        check.promise("promise 7, stream");
        DoorNet x = Nets.oneWire(3, 2);
        int[][] wrong = {{0, 2, 1, 12, 50}, {-1, 1, 1, 12, 50}, {0, 0, 1, 12, 50}, {0, 1, 0, 12, 50},
            {0, 1, 9, 12, 50}, {0, 1, 1, 1, 50}, {0, 1, 1, 0, 50}, {0, 1, 1, -12, 50}, {0, 1, 1, 5, 50},
            {0, 1, 1, 24, 50}, {0, 1, 1, 12, 0}, {0, 1, 1, 12, 201}, {0, 1, 1, LOW, 50}, {0, 1, 1, HIGH, 50},
            {0, 1, 1, 12, HIGH}, {0, 1, 1, 12, LOW}, {0, 1, HIGH, 12, 50}, {LOW, 1, 1, 12, 50}, {0, HIGH, 1, 12, 50}};
        for (int[] s : wrong) {
            check.due("a wrong stream", x.stream(s[0], s[1], s[2], s[3], s[4]), -1);
        }
        check.due("no way", x.stream(1, 0, 1, 12, 200), -2);
        check.due("too late by one", x.stream(0, 1, 2, 12, 6), -2);
        check.due("a wrong period comes ahead of no choice", x.stream(1, 0, 1, 5, 200), -1);
        check.due("count(4)", x.count(4), 0);
        check.due("just in time", x.stream(0, 1, 2, 12, 7), 0);
        check.due("place", x.place(0, 1), -1);
        check.due("count(5)", x.count(5), 0);
        for (int s = 1; s < 8; s++) {
            check.due("one stream more", x.stream(0, 1, 8, s < 4 ? 2 : 6, 200), s);
        }
        check.due("a ninth stream", x.stream(0, 1, 1, 12, 200), -1);
        check.due("a ninth without a choice", x.stream(1, 0, 1, 12, 200), -1);
        check.due("place(8, 0)", x.place(8, 0), -1);
        check.due("strike(8)", x.strike(8), false);
        check.due("count(4)", x.count(4), 8);
        DoorNet y = Nets.oneWire(0, 1);
        y.cycle(120);
        check.due("period 120 of cycle 120", y.stream(0, 1, 1, 120, 1), 0);
        check.due("period 2", y.stream(0, 1, 1, 2, 1), 1);
        check.due("period 48 of cycle 120", y.stream(0, 1, 1, 48, 1), -1);
    }

    /** Four wires from box 0 to 1, each later than the one ahead by 1. */
    private static DoorNet fourWires() {
        DoorNet x = new DoorNet();
        x.box(0);
        x.box(0);
        for (int length = 0; length < 4; length++) {
            x.wire(0, 1, length, 3);
        }
        return x;
    }

    private void streamChoices() {
        check.promise("promise 7, choices");
        // Each letter has the whole of a wire; the fourth wire is nobody's choice.
        DoorNet x = fourWires();
        for (int s = 0; s < 4; s++) {
            x.stream(0, 1, 2, 6, 200);
        }
        check.due("plan() of four on three choices", x.plan(), 0);
        check.due("tries()", x.tries(), 18 + 18 * 18 + 18 * 12 * 18 + 18 * 12 * 6 * 18);
        DoorNet y = fourWires();
        y.stream(0, 1, 4, 12, 13);
        y.stream(0, 1, 4, 12, 13);
        check.due("plan() of two on two choices", y.plan(), 1);
        check.due("choice", y.place(1, 0), 1);
        check.due("tries()", y.tries(), 1 + 12 + 1);
        y.stream(0, 1, 4, 12, 13);
        check.due("add() of a third on two choices", y.add(), 0);
        check.due("tries()", y.tries(), 24);
        DoorNet z = fourWires();
        z.stream(0, 1, 4, 12, 12);
        z.stream(0, 1, 4, 12, 12);
        check.due("plan() of two on one choice", z.plan(), 0);
        check.due("tries()", z.tries(), 12 + 12 * 12);
    }

    private void strike() {
        check.promise("promise 8, strike");
        DoorNet x = Nets.oneWire(0, 1);
        check.due("strike(0) without streams", x.strike(0), false);
        x.stream(0, 1, 3, 12, 50);
        check.due("strike(0) without a place", x.strike(0), false);
        x.plan();
        check.due("door(0, 2)", x.door(0, 2), 0);
        for (int s : new int[] {-1, 1, 8, LOW, HIGH}) {
            check.due("strike(" + s + ")", x.strike(s), false);
        }
        check.due("strike(0)", x.strike(0), true);
        check.due("door(0, 2)", x.door(0, 2), -1);
        check.due("waits(0, 0, 8)", x.waits(0, 0, 8), 0);
        check.due("place(0, 0)", x.place(0, 0), -1);
        check.due("leaves(0, 0, 0)", x.leaves(0, 0, 0), -1000);
        check.due("count(4)", x.count(4), 1);
        check.due("count(5)", x.count(5), 0);
        check.due("tries() stays", x.tries(), 1);
        check.due("strike(0) again", x.strike(0), false);
        check.due("cycle(24): the stream is still there", x.cycle(24), false);
    }

    private void plan() {
        check.promise("promise 9, plan");
        DoorNet x = Nets.oneWire(0, 1);
        check.due("plan() of none", x.plan(), 1);
        x.stream(0, 1, 4, 12, 50);
        x.stream(0, 1, 2, 6, 50);
        check.due("plan()", x.plan(), 1);
        check.due("place(0, 1)", x.place(0, 1), 0);
        check.due("place(1, 1)", x.place(1, 1), 4);
        x.strike(0);
        x.stream(0, 1, 2, 12, 50);
        check.due("add()", x.add(), 1);
        check.due("place(1, 1) stays", x.place(1, 1), 4);
        check.due("plan() moves all that it must", x.plan(), 1);
        check.due("place(2, 1)", x.place(2, 1), 6);
        check.due("tries()", x.tries(), 1 + 5 + 7);
        x.stream(0, 1, 3, 12, 50);
        check.due("plan() of too many", x.plan(), 0);
        check.due("place(0, 1) stays", x.place(0, 1), 0);
        check.due("place(1, 1) stays", x.place(1, 1), 4);
        check.due("place(3, 1)", x.place(3, 1), -1);
        check.due("doors stay", x.waits(0, 8, 1), 0);
        check.due("doors stay", x.waits(0, 6, 1), 2);
        x.send(0, 0, 1, 2);
        check.due("doors stay", x.plain(0, 20), 8);
        DoorNet y = Nets.oneWire(0, 3);
        y.stream(0, 1, 5, 12, 50);
        check.due("plan() of one that meets itself", y.plan(), 0);
        check.due("tries()", y.tries(), 12);
        DoorNet z = Nets.oneWire(0, 3);
        z.stream(0, 1, 4, 12, 50);
        check.due("plan() of one that just fills the wire", z.plan(), 1);
        check.due("worst(0, 1)", z.worst(0, 1), -1);
    }

    private void planGoesBack() {
        check.promise("promise 9, going back");
        // On the first wire alone both would fit; behind the second they meet unless one waits.
        DoorNet x = new DoorNet();
        x.box(0);
        x.box(0);
        x.box(0);
        x.wire(0, 1, 0, 1);
        x.wire(1, 2, 0, 3);
        x.stream(0, 2, 2, 12, 50);
        x.stream(1, 2, 2, 12, 50);
        check.due("plan()", x.plan(), 1);
        check.due("place(0, 21)", x.place(0, 21), 2);
        check.due("place(1, 1)", x.place(1, 1), 8);
        // Held 2 ticks and 2 for drift in between: the second wire is taken from 6 on, by rests by 8.
        DoorNet z = new DoorNet();
        z.box(0);
        z.box(2);
        z.box(0);
        z.wire(0, 1, 0, 1);
        z.wire(1, 2, 0, 1);
        z.cycle(48);
        z.drift(1);
        z.stream(0, 2, 2, 8, 50);
        z.stream(1, 2, 2, 8, 50);
        z.stream(0, 2, 2, 8, 50);
        check.due("plan()", z.plan(), 1);
        check.due("place(0, 21)", z.place(0, 21), 6);
        check.due("place(1, 1)", z.place(1, 1), 0);
        check.due("place(2, 1)", z.place(2, 1), 4);
        check.due("waits(1, 6, 1)", z.waits(1, 6, 1), 6);
        check.due("door(1, 4)", z.door(1, 4), -1);
        check.due("tries()", z.tries(), 1 + 1 + 5);
        // Three that go into two halves of a wire only one way round.
        DoorNet y = Nets.oneWire(0, 1);
        y.stream(0, 1, 3, 12, 50);
        y.stream(0, 1, 3, 12, 50);
        y.stream(0, 1, 3, 6, 50);
        check.due("plan()", y.plan(), 1);
        check.due("place(0, 1)", y.place(0, 1), 0);
        check.due("place(1, 1)", y.place(1, 1), 6);
        check.due("place(2, 1)", y.place(2, 1), 3);
        // 1; ticks 0 .. 3, 4, 5 and 6 of the second; six for each of 3, 4, 5, and four at the last
        check.due("tries()", y.tries(), 1 + 7 + 18 + 4);
    }

    private void planFull() {
        check.promise("promise 9, full");
        DoorNet x = Nets.oneWire(0, 1);
        x.cycle(120);
        x.stream(0, 1, 1, 120, 50);
        check.due("plan()", x.plan(), 1);
        x.stream(0, 1, 1, 60, 50);
        x.stream(0, 1, 1, 60, 50);
        x.stream(0, 1, 2, 2, 50);
        check.due("plan()", x.plan(), -2);
        check.due("tries()", x.tries(), 40000);
        check.due("place(0, 1) stays", x.place(0, 1), 0);
        check.due("door(0, 0) stays", x.door(0, 0), 0);
        check.due("door(0, 1) stays", x.door(0, 1), -1);
        check.due("count(5)", x.count(5), 1);
        // 59 of 60 ticks are free for the first, 58 of 60 for the second, and none for the third.
        check.due("add()", x.add(), 0);
        check.due("tries()", x.tries(), 60 + 59 * 60 + 59 * 58 * 2);
        check.due("stir()", x.stir(), -2);
        check.due("tries()", x.tries(), 40000);
        check.due("place(0, 1) stays", x.place(0, 1), 0);
        check.due("door(0, 0) stays", x.door(0, 0), 0);
    }

    /** A wire from 0 to 1, one from 1 to 0, three from 2 to 3, a cycle of 60. */
    private static DoorNet islands() {
        DoorNet x = new DoorNet();
        for (int b = 0; b < 4; b++) {
            x.box(0);
        }
        x.wire(0, 1, 0, 1);
        x.wire(1, 0, 0, 1);
        for (int w = 0; w < 3; w++) {
            x.wire(2, 3, 0, 3);
        }
        x.cycle(60);
        return x;
    }

    private void planAllButFull() {
        check.promise("promise 9, the last try");
        // The last stream meets itself wherever it is: 10 + 10 * 3 + 10 * 3 * 36 + 10 * 3 * 36 * 36.
        DoorNet x = islands();
        x.stream(0, 1, 1, 10, 50);
        x.stream(1, 0, 1, 3, 50);
        x.stream(2, 3, 1, 12, 50);
        x.stream(2, 3, 5, 12, 50);
        check.due("plan() of just 40,000 tries", x.plan(), 0);
        check.due("tries()", x.tries(), 40000);
        // Two of five ticks are not free: 5 + 3 * 12 + 3 * 12 * 30 + 3 * 12 * 30 * 36.
        DoorNet y = islands();
        y.stream(0, 1, 2, 60, 50);
        y.plan();
        y.stream(0, 1, 1, 5, 50);
        y.stream(1, 0, 1, 12, 50);
        y.stream(2, 3, 1, 10, 50);
        y.stream(2, 3, 5, 12, 50);
        check.due("add() of 40,001 tries", y.add(), -2);
        check.due("tries()", y.tries(), 40000);
        check.due("count(5)", y.count(5), 1);
    }

    private void add() {
        check.promise("promise 10, add");
        DoorNet x = Nets.oneWire(0, 1);
        check.due("add() of none", x.add(), 1);
        x.stream(0, 1, 2, 12, 50);
        x.stream(0, 1, 3, 12, 50);
        check.due("add()", x.add(), 1);
        check.due("place(1, 1)", x.place(1, 1), 2);
        x.strike(0);
        x.stream(0, 1, 4, 12, 50);
        check.due("add()", x.add(), 1);
        check.due("place(0, 1)", x.place(0, 1), 0);
        check.due("place(1, 1) stays", x.place(1, 1), 2);
        check.due("place(2, 1)", x.place(2, 1), 5);
        check.due("tries()", x.tries(), 1 + 6);
        x.stream(0, 1, 2, 12, 50);
        x.stream(0, 1, 2, 12, 50);
        check.due("add() of one that fits and one that does not", x.add(), 0);
        check.due("place(3, 0)", x.place(3, 0), -1);
        check.due("count(5)", x.count(5), 3);
        check.due("door(0, 9) stays plain", x.door(0, 9), -1);
        check.due("add() again", x.add(), 0);
    }

    private void stir() {
        check.promise("promise 11, stir");
        DoorNet x = Nets.oneWire(0, 1);
        check.due("stir() of none", x.stir(), 0);
        x.stream(0, 1, 3, 12, 50);
        check.due("stir() moves none if it need not", x.stir(), 0);
        check.due("place(0, 1)", x.place(0, 1), 0);
        x.stream(0, 1, 3, 12, 50);
        x.add();
        x.stream(0, 1, 3, 6, 50);
        check.due("add()", x.add(), 0);
        check.due("stir()", x.stir(), 1);
        check.due("the least stream is moved", x.place(0, 1), 9);
        check.due("place(1, 1) stays", x.place(1, 1), 3);
        check.due("place(2, 1)", x.place(2, 1), 0);
        x.stream(0, 1, 1, 12, 50);
        check.due("stir() on a full wire", x.stir(), -1);
        check.due("place(0, 1) stays", x.place(0, 1), 9);
        check.due("place(2, 1) stays", x.place(2, 1), 0);
        check.due("door(0, 6)", x.door(0, 6), 2);
        check.due("count(5)", x.count(5), 3);
    }

    /** Streams of one tick each side by side, all with a place, and one that needs each second tick. */
    private static DoorNet sideBySide(int many) {
        DoorNet x = Nets.oneWire(0, 1);
        for (int s = 0; s < many; s++) {
            x.stream(0, 1, 1, 12, 50);
        }
        x.plan();
        x.stream(0, 1, 1, 2, 50);
        return x;
    }

    private void stirMoreThanOne() {
        check.promise("promise 11, sets of streams");
        DoorNet x = sideBySide(4);
        // Ticks 0 and 2, or ticks 1 and 3, are in the way: the first set is {0, 2}.
        check.due("stir()", x.stir(), 2);
        int[] two = {5, 1, 7, 3, 0};
        for (int s = 0; s < two.length; s++) {
            check.due("place(" + s + ", 1)", x.place(s, 1), two[s]);
        }
        DoorNet y = sideBySide(6);
        check.due("stir() of three", y.stir(), 3);
        int[] three = {7, 1, 9, 3, 11, 5, 0};
        for (int s = 0; s < three.length; s++) {
            check.due("place(" + s + ", 1)", y.place(s, 1), three[s]);
        }
        // With a second one of one tick struck, it is fitted in beside those that are stirred.
        DoorNet z = sideBySide(4);
        z.strike(2);
        check.due("stir()", z.stir(), 1);
        int[] one = {5, 1, 7, 3, 0};
        for (int s = 0; s < one.length; s++) {
            check.due("place(" + s + ", 1)", z.place(s, 1), one[s]);
        }
        // All four of wire 0 would have to go to wire 1 for one that can have wire 0 alone.
        DoorNet v = new DoorNet();
        v.box(0);
        v.box(0);
        v.wire(0, 1, 0, 1);
        v.wire(0, 1, 1, 1);
        for (int s = 0; s < 4; s++) {
            v.stream(0, 1, 1, 4, 50);
        }
        v.plan();
        v.stream(0, 1, 2, 2, 2);
        check.due("stir() that would need four", v.stir(), -1);
        check.due("plan()", v.plan(), 1);
        check.due("place(3, 10)", v.place(3, 10), 1);
        check.due("place(4, 10)", v.place(4, 10), 0);
        // Four of two ticks take eight; one of each second tick would need six more.
        DoorNet w = Nets.oneWire(0, 1);
        for (int s = 0; s < 4; s++) {
            w.stream(0, 1, 2, 12, 50);
        }
        w.plan();
        w.stream(0, 1, 1, 2, 50);
        check.due("stir() where none helps", w.stir(), -1);
        check.due("place(3, 1) stays", w.place(3, 1), 6);
        check.due("door(0, 7) stays", w.door(0, 7), 3);
        check.due("door(0, 8) stays", w.door(0, 8), -1);
    }

    private void place() {
        check.promise("promise 12, place");
        DoorNet x = Nets.chain(5, 2, 1, 2);
        x.cycle(24);
        x.drift(1);
        // each wire: 3 * 2 + 1, and 2 + 2 between
        check.due("stream", x.stream(0, 4, 3, 12, 200), 0);
        check.due("place(0, 0) ahead of a plan", x.place(0, 0), -1);
        x.plan();
        check.due("place(0, 0)", x.place(0, 0), 0);
        check.due("place(0, 1)", x.place(0, 1), 0);
        check.due("place(0, 2)", x.place(0, 2), 4);
        check.due("place(0, 3)", x.place(0, 3), 4 * 7 + 3 * 4);
        for (int k = 0; k < 4; k++) {
            check.due("place(0, 1k)", x.place(0, 10 + k), k);
            check.due("place(0, 2k)", x.place(0, 20 + k), 11 * k);
        }
        for (int what : new int[] {-1, 4, 9, 14, 15, 19, 24, 30, LOW, HIGH, LOW + 19, LOW + 9}) {
            check.due("place(0, " + what + ")", x.place(0, what), -1);
        }
        for (int s : new int[] {-1, 1, LOW, HIGH}) {
            check.due("place(" + s + ", 0)", x.place(s, 0), -1);
        }
        x.stream(3, 4, 1, 24, 200);
        x.add();
        check.due("start of the fourth wire is beyond the cycle", x.place(0, 23), 33);
        check.due("by rests it is 9 .. 14, so up to 2", x.place(1, 1), 3);
        check.due("no second wire", x.place(1, 11), -1);
        check.due("no second start", x.place(1, 21), -1);
    }

    private void tries() {
        check.promise("promise 13, tries");
        DoorNet x = Nets.oneWire(0, 1);
        check.due("tries() ahead of any", x.tries(), 0);
        x.stream(0, 1, 4, 12, 50);
        check.due("tries() ahead of any", x.tries(), 0);
        x.plan();
        check.due("tries()", x.tries(), 1);
        x.plan();
        check.due("tries() are not gathered", x.tries(), 1);
        x.add();
        check.due("tries() of an add() of none", x.tries(), 0);
        x.stream(0, 1, 4, 6, 50);
        check.due("add()", x.add(), 0);
        check.due("tries()", x.tries(), 6);
        check.due("stir()", x.stir(), -1);
        check.due("tries() of all sets", x.tries(), 6 + 12 + 12 * 6);
    }

    private void door() {
        check.promise("promise 14, door");
        DoorNet x = Nets.oneWire(0, 1);
        check.due("door(0, 0) without streams", x.door(0, 0), -1);
        x.stream(0, 1, 2, 6, 50);
        x.stream(0, 1, 3, 12, 50);
        check.due("door(0, 0) ahead of a plan", x.door(0, 0), -1);
        x.plan();
        int[] due = {0, 0, 1, 1, 1, -1, 0, 0, -1, -1, -1, -1};
        for (int t = 0; t < 12; t++) {
            check.due("door(0, " + t + ")", x.door(0, t), due[t]);
        }
        int[][] wrong = {{0, -1}, {0, 12}, {1, 0}, {-1, 0}, {0, LOW}, {0, HIGH}, {HIGH, 0}, {LOW, 0}};
        for (int[] d : wrong) {
            check.due("a wrong door", x.door(d[0], d[1]), -2);
        }
        DoorNet z = Nets.chain(3, 0, 0, 1);
        z.stream(1, 2, 1, 12, 50);
        z.plan();
        check.due("door(0, 0) of a wire that no stream has", z.door(0, 0), -1);
        check.due("door(1, 0)", z.door(1, 0), 0);
        // Ahead of its first letter: the second wire's start is 14, by rests 2.
        DoorNet y = Nets.chain(3, 5, 8, 1);
        y.stream(0, 2, 1, 12, 50);
        y.plan();
        check.due("start", y.place(0, 21), 14);
        check.due("door(1, 2)", y.door(1, 2), 0);
        check.due("door(1, 1)", y.door(1, 1), -1);
        check.due("door(1, 3)", y.door(1, 3), -1);
    }

    private void doorOfCycle48() {
        check.promise("promises 14 and 15, a cycle of 48");
        DoorNet x = Nets.oneWire(0, 1);
        x.cycle(48);
        x.stream(0, 1, 6, 16, 50);
        x.stream(0, 1, 4, 48, 50);
        x.plan();
        // free: 10 .. 15, 22 .. 31, 38 .. 47
        for (int t = 0; t < 48; t++) {
            int due = t % 16 < 6 ? 0 : t < 10 ? 1 : -1;
            check.due("door(0, " + t + ")", x.door(0, t), due);
            int next = t <= 22 ? 22 : t <= 24 ? t : t <= 38 ? 38 : t <= 40 ? t : 48 + 22;
            check.due("waits(0, " + t + ", 8)", x.waits(0, t, 8), next - t);
        }
    }

    private void waits() {
        check.promise("promise 15, waits");
        DoorNet x = Nets.oneWire(0, 2);
        check.due("waits(0, 11, 8) without streams", x.waits(0, 11, 8), 0);
        x.stream(0, 1, 1, 12, 50);
        x.stream(0, 1, 1, 6, 50);
        x.plan();
        // doors: 0 0 1 1 . . . . 1 1 . .
        int[] one = {4, 3, 2, 1, 0, 0, 0, 3, 2, 1, 0, 5};
        int[] two = {4, 3, 2, 1, 0, 11, 10, 9, 8, 7, 6, 5};
        for (int t = 0; t < 12; t++) {
            check.due("waits(0, " + t + ", 1)", x.waits(0, t, 1), one[t]);
            check.due("waits(0, " + t + ", 2)", x.waits(0, t, 2), two[t]);
            check.due("waits(0, " + t + ", 3)", x.waits(0, t, 3), -1);
        }
        int[][] wrong = {{1, 0, 1}, {-1, 0, 1}, {0, -1, 1}, {0, 12, 1}, {0, 0, 0}, {0, 0, 9}, {HIGH, 0, 1},
            {0, HIGH, 1}, {0, LOW, 1}, {0, 0, HIGH}, {0, 0, LOW}};
        for (int[] w : wrong) {
            check.due("a wrong waits", x.waits(w[0], w[1], w[2]), -2);
        }
        DoorNet y = Nets.oneWire(0, 3);
        y.stream(0, 1, 1, 12, 50);
        y.plan();
        check.due("waits for a time beyond the cycle", y.waits(0, 3, 8), -1);
        check.due("waits for all that is free", y.waits(0, 4, 3), 11);
        y.strike(0);
        check.due("waits for a time beyond the cycle, all free", y.waits(0, 3, 8), 0);
    }

    private void worst() {
        check.promise("promise 16, worst");
        DoorNet x = Nets.oneWire(0, 2);
        check.due("worst(0, 8) without streams", x.worst(0, 8), 0);
        x.stream(0, 1, 1, 12, 50);
        x.stream(0, 1, 1, 6, 50);
        x.plan();
        check.due("worst(0, 1)", x.worst(0, 1), 5);
        check.due("worst(0, 2)", x.worst(0, 2), 11);
        check.due("worst(0, 3)", x.worst(0, 3), -1);
        DoorNet y = Nets.oneWire(0, 1);
        y.stream(0, 1, 6, 12, 50);
        y.plan();
        check.due("worst(0, 1) is that of tick 0", y.worst(0, 1), 6);
        check.due("worst(0, 6) is that of tick 7", y.worst(0, 6), 11);
        int[][] wrong = {{1, 1}, {-1, 1}, {0, 0}, {0, 9}, {HIGH, 1}, {LOW, 1}, {0, HIGH}, {0, LOW}};
        for (int[] w : wrong) {
            check.due("a wrong worst", x.worst(w[0], w[1]), -2);
        }
    }

    private void clock() {
        check.promise("promise 17, clock");
        DoorNet x = Nets.oneWire(0, 1);
        check.due("clock(0, 0)", x.clock(0, 0), true);
        check.due("clock(0, 1) without drift", x.clock(0, 1), false);
        x.drift(3);
        for (int e = -3; e <= 3; e++) {
            check.due("clock(1, " + e + ")", x.clock(1, e), true);
        }
        for (int e : new int[] {-4, 4, LOW, HIGH}) {
            check.due("clock(1, " + e + ")", x.clock(1, e), false);
        }
        for (int b : new int[] {-1, 2, LOW, HIGH}) {
            check.due("clock(" + b + ", 0)", x.clock(b, 0), false);
        }
        x.stream(0, 1, 1, 12, 50);
        x.plan();
        check.due("clock(0, -3) beside a stream", x.clock(0, -3), true);
        check.due("leaves", x.leaves(0, 0, 0), -3);
        check.due("clock(0, 4)", x.clock(0, 4), false);
        check.due("leaves", x.leaves(0, 0, 0), -3);
        check.due("clock(0, 3)", x.clock(0, 3), true);
        check.due("door(0, 0): doors go by the clock", x.door(0, 0), 0);
    }

    private void send() {
        check.promise("promise 18, send");
        DoorNet x = Nets.oneWire(0, 1);
        int[][] wrong = {{-1, 0, 1, 1}, {1000, 0, 1, 1}, {0, 0, 0, 1}, {0, 0, 2, 1}, {0, -1, 1, 1}, {0, 0, 1, 0},
            {0, 0, 1, 9}, {LOW, 0, 1, 1}, {HIGH, 0, 1, 1}, {0, HIGH, LOW, 1}, {0, 0, 1, HIGH}, {1000, 1, 0, 1}};
        for (int[] l : wrong) {
            check.due("a wrong send", x.send(l[0], l[1], l[2], l[3]), -1);
        }
        check.due("no way", x.send(0, 1, 0, 1), -2);
        check.due("count(6)", x.count(6), 0);
        for (int l = 0; l < 60; l++) {
            check.due("one letter more", x.send(l % 2 == 0 ? 999 : 0, 0, 1, 1 + l % 8), l);
        }
        check.due("a letter too many", x.send(0, 0, 1, 1), -1);
        check.due("a letter too many without a way", x.send(0, 1, 0, 1), -1);
        check.due("count(6)", x.count(6), 60);
    }

    private void leaves() {
        check.promise("promise 19, leaves");
        DoorNet x = Nets.chain(3, 1, 2, 1);
        x.drift(1);
        x.stream(0, 2, 3, 6, 50);
        x.plan();
        // start of the second wire: 3 + 2 + 1 + 2
        check.due("leaves(0, 0, 0)", x.leaves(0, 0, 0), 0);
        check.due("leaves(0, 99, 0)", x.leaves(0, 99, 0), 594);
        check.due("leaves(0, 2, 1)", x.leaves(0, 2, 1), 20);
        check.due("leaves(0, 2, 9)", x.leaves(0, 2, 9), 25);
        x.clock(0, -1);
        x.clock(1, 1);
        x.clock(2, 1);
        check.due("leaves(0, 0, 0)", x.leaves(0, 0, 0), -1);
        check.due("leaves(0, 2, 1)", x.leaves(0, 2, 1), 21);
        check.due("leaves(0, 2, 9) goes by the last wire's clock", x.leaves(0, 2, 9), 26);
        int[][] wrong = {{-1, 0, 0}, {1, 0, 0}, {0, -1, 0}, {0, 100, 0}, {0, 0, -1}, {0, 0, 2}, {0, 0, 3}, {0, 0, 4},
            {0, 0, 8}, {0, 0, 10}, {0, 100, 9}, {LOW, 0, 0}, {HIGH, 0, 0}, {0, LOW, 0}, {0, HIGH, 0}, {0, 0, LOW},
            {0, 0, HIGH}};
        for (int[] l : wrong) {
            check.due("a wrong leaves", x.leaves(l[0], l[1], l[2]), -1000);
        }
        x.strike(0);
        check.due("leaves(0, 0, 9) without a place", x.leaves(0, 0, 9), -1000);
    }

    private void room() {
        check.promise("promise 20, room");
        DoorNet x = Nets.chain(5, 1, 2, 1);
        x.drift(3);
        x.stream(0, 4, 3, 6, 100);
        x.plan();
        for (int k = 1; k < 4; k++) {
            check.due("room(0, 7, " + k + ") with clocks that are right", x.room(0, 7, k), 6);
        }
        x.clock(1, -3);
        x.clock(2, 3);
        x.clock(3, 2);
        check.due("room(0, 0, 1)", x.room(0, 0, 1), 3);
        check.due("room(0, 99, 2)", x.room(0, 99, 2), 12);
        check.due("room(0, 0, 3)", x.room(0, 0, 3), 5);
        x.clock(0, 3);
        check.due("room(0, 0, 1) at the worst", x.room(0, 0, 1), 0);
        int[][] wrong = {{-1, 0, 1}, {1, 0, 1}, {0, -1, 1}, {0, 100, 1}, {0, 0, 0}, {0, 0, 4}, {0, 0, 9}, {0, 0, -1},
            {LOW, 0, 1}, {HIGH, 0, 1}, {0, LOW, 1}, {0, HIGH, 1}, {0, 0, LOW}, {0, 0, HIGH}};
        for (int[] r : wrong) {
            check.due("a wrong room", x.room(r[0], r[1], r[2]), -1000);
        }
        x.strike(0);
        check.due("room(0, 0, 1) without a place", x.room(0, 0, 1), -1000);
        DoorNet y = Nets.oneWire(0, 1);
        y.stream(0, 1, 1, 12, 50);
        y.plan();
        check.due("room(0, 0, 1) on a way of one wire", y.room(0, 0, 1), -1000);
    }

    private void plain() {
        check.promise("promise 21, plain");
        DoorNet x = Nets.chain(3, 4, 2, 2);
        x.drift(2);
        check.due("send", x.send(5, 0, 2, 3), 0);
        check.due("plain(0, 0)", x.plain(0, 0), 2);
        check.due("plain(0, 10)", x.plain(0, 10), 0);
        check.due("plain(0, 11)", x.plain(0, 11), 1);
        check.due("plain(0, 20)", x.plain(0, 20), 5);
        check.due("plain(0, 30)", x.plain(0, 30), 5);
        // 6 on the wire, 2 along it, held 4; nothing for drift
        check.due("plain(0, 31)", x.plain(0, 31), 17);
        check.due("plain(0, 21)", x.plain(0, 21), 17);
        check.due("plain(0, 1): no hold at its end", x.plain(0, 1), 25);
        for (int what : new int[] {-1, 2, 3, 9, 12, 13, 14, 22, 23, 24, 32, 33, 34, 40, LOW, HIGH, LOW + 29}) {
            check.due("plain(0, " + what + ")", x.plain(0, what), -1);
        }
        for (int l : new int[] {-1, 1, 60, LOW, HIGH}) {
            check.due("plain(" + l + ", 0)", x.plain(l, 0), -1);
        }
        DoorNet y = Nets.oneWire(0, 1);
        y.drift(2);
        y.stream(0, 1, 6, 12, 50);
        y.plan();
        y.send(0, 0, 1, 3);
        y.send(16, 0, 1, 3);
        check.due("behind the door", y.plain(0, 20), 6);
        check.due("the door would shut too early", y.plain(1, 20), 18);
        y.clock(0, 2);
        check.due("a clock that is late", y.plain(0, 20), 8);
        check.due("a clock that is late", y.plain(1, 20), 20);
        y.clock(0, -2);
        check.due("a clock that is early", y.plain(0, 20), 4);
        check.due("ahead of the first letter the door is shut too", y.plain(0, 30), 0);
    }

    private void plainOrder() {
        check.promise("promise 21, who begins first");
        DoorNet x = Nets.chain(3, 0, 0, 1);
        x.stream(1, 2, 6, 12, 50);
        x.plan();
        x.send(1, 1, 2, 1);
        x.send(0, 1, 2, 7);
        check.due("the one ahead waits for ever", x.plain(1, 20), -3);
        check.due("and nobody goes by it", x.plain(0, 20), -3);
        check.due("plain(0, 30)", x.plain(0, 30), 1);
        check.due("plain(0, 1)", x.plain(0, 1), -3);
        DoorNet y = Nets.chain(3, 0, 0, 1);
        y.send(3, 1, 2, 2);
        y.send(0, 0, 2, 3);
        y.send(2, 1, 2, 4);
        // letter 2 takes the wire from 2 to 6; then 0 and 1 could both go on at 3
        check.due("plain(2, 20)", y.plain(2, 20), 2);
        check.due("plain(1, 31)", y.plain(1, 31), 3);
        check.due("the lesser number of two", y.plain(0, 20), 6);
        check.due("the other one", y.plain(1, 21), 8);
        check.due("plain(1, 1)", y.plain(1, 1), 11);
        y.send(1, 1, 2, 1);
        check.due("a later number, earlier", y.plain(3, 20), 1);
        check.due("does not stir the others", y.plain(2, 20), 2);
        y.send(0, 1, 2, 2);
        check.due("a letter more at 0", y.plain(4, 20), 0);
        check.due("puts off the one at 1", y.plain(3, 20), 2);
        check.due("and the one at 2", y.plain(2, 20), 3);
    }

    private void plainAsToldNow() {
        check.promise("promise 21, as all is told now");
        // Over box 1 it is 1 + 0 + 1 + 1 = 3 and twice the drift; by the wire from 0 to 2 it is 5.
        DoorNet x = new DoorNet();
        x.box(0);
        x.box(1);
        x.box(0);
        x.wire(0, 1, 0, 1);
        x.wire(1, 2, 0, 1);
        x.wire(0, 2, 4, 1);
        x.send(0, 0, 2, 1);
        check.due("plain(0, 0)", x.plain(0, 0), 2);
        check.due("plain(0, 1)", x.plain(0, 1), 3);
        x.drift(1);
        check.due("at 5 and 5 the lesser first wire", x.plain(0, 0), 2);
        x.drift(2);
        check.due("plain(0, 0)", x.plain(0, 0), 1);
        check.due("plain(0, 10)", x.plain(0, 10), 2);
        check.due("plain(0, 1)", x.plain(0, 1), 5);
        x.stream(0, 2, 2, 6, 6);
        check.due("ahead of a plan", x.plain(0, 20), 0);
        x.add();
        check.due("behind it", x.plain(0, 20), 2);
        x.strike(0);
        check.due("and struck", x.plain(0, 20), 0);
        x.stir();
        check.due("and stirred", x.plain(0, 20), 2);
        x.strike(0);
        check.due("and struck", x.plain(0, 20), 0);
        x.plan();
        check.due("and planned", x.plain(0, 20), 2);
        DoorNet y = Nets.oneWire(0, 1);
        y.send(0, 0, 1, 1);
        check.due("plain(0, 1)", y.plain(0, 1), 1);
        y.stream(0, 1, 2, 2, 50);
        y.add();
        check.due("plain(0, 1) of a wire that is full now", y.plain(0, 1), -3);
        check.due("count(7)", y.count(7), 0);
        check.due("most(0)", y.most(0), 1);
    }

    private void plainOfManyWires() {
        check.promise("promise 21, many letters on twelve wires");
        DoorNet x = new DoorNet();
        for (int b = 0; b < 5; b++) {
            x.box(0);
        }
        for (int w = 0; w < 12; w++) {
            x.wire(w % 4, w % 4 + 1, 9 - w / 4 * 4, 1);
        }
        for (int l = 0; l < 60; l++) {
            x.send(0, 0, 4, 1);
        }
        // They go by wires 8 .. 11, of length 1, one behind the other.
        check.due("plain(59, 13)", x.plain(59, 13), 11);
        check.due("plain(59, 20)", x.plain(59, 20), 59);
        check.due("plain(59, 23)", x.plain(59, 23), 65);
        check.due("plain(59, 1)", x.plain(59, 1), 67);
        check.due("count(7)", x.count(7), 60);
        check.due("most(8)", x.most(8), 59);
        check.due("most(11)", x.most(11), 0);
        check.due("plain(60, 0)", x.plain(60, 0), -1);
    }

    private void plainTooLate() {
        check.promise("promise 21, tick 3000");
        DoorNet x = Nets.oneWire(0, 3);
        x.cycle(120);
        x.stream(0, 1, 8, 24, 50);
        check.due("plan()", x.plan(), 1);
        x.send(999, 0, 1, 1);
        check.due("a wire without a tick for plain letters", x.plain(0, 20), -3);
        DoorNet y = new DoorNet();
        y.box(0);
        y.box(5);
        y.box(0);
        y.wire(0, 1, 0, 3);
        y.wire(1, 2, 9, 1);
        y.cycle(120);
        y.stream(0, 1, 8, 120, 50);
        y.stream(0, 1, 8, 120, 50);
        y.stream(0, 1, 8, 120, 50);
        y.stream(0, 1, 8, 120, 50);
        check.due("plan()", y.plan(), 1);
        for (int l = 0; l < 18; l++) {
            y.send(999, 0, 2, 8);
        }
        // Only ticks 96 .. 119 are free: 1056, 1176, .. 2976.
        for (int l = 0; l < 17; l++) {
            check.due("plain(" + l + ", 20)", y.plain(l, 20), 1056 + 120 * l);
        }
        check.due("plain(15, 1)", y.plain(15, 1), 2856 + 24 + 5 + 8 + 9);
        check.due("plain(16, 20)", y.plain(16, 20), 2976);
        check.due("plain(16, 31): it is there at 3000", y.plain(16, 31), -3);
        check.due("plain(16, 21)", y.plain(16, 21), -3);
        check.due("plain(16, 1)", y.plain(16, 1), -3);
        check.due("plain(16, 11)", y.plain(16, 11), 1);
        check.due("plain(17, 30)", y.plain(17, 30), 999);
        check.due("plain(17, 20) would be 3096", y.plain(17, 20), -3);
        check.due("plain(17, 22)", y.plain(17, 22), -1);
        check.due("count(7)", y.count(7), 16);
        check.due("most(0)", y.most(0), 18);
        check.due("most(1)", y.most(1), 0);
    }

    /** A fifth of the first wire is free, that of one of five streams; drift 1; 17 plain letters. */
    private static DoorNet fifthFree(int s, int to) {
        DoorNet x = new DoorNet();
        for (int b = 0; b < 3; b++) {
            x.box(0);
        }
        x.wire(0, 1, 0, 3);
        x.wire(1, 2, 0, 1);
        x.cycle(120);
        x.drift(1);
        for (int j = 0; j < 5; j++) {
            x.stream(0, 1, 8, 120, 50);
        }
        x.plan();
        x.strike(s);
        for (int l = 0; l < 17; l++) {
            x.send(999, 0, to, 8);
        }
        return x;
    }

    private void plainJustInTime() {
        check.promise("promise 21, ticks 2999 and 3000");
        DoorNet x = fifthFree(4, 1);
        check.due("plain(16, 20)", x.plain(16, 20), 1056 + 16 * 120);
        check.due("plain(16, 1) would be 3000", x.plain(16, 1), -3);
        check.due("count(7)", x.count(7), 16);
        x.clock(0, -1);
        check.due("plain(16, 1)", x.plain(16, 1), 2999);
        check.due("count(7)", x.count(7), 17);
        DoorNet y = fifthFree(0, 1);
        check.due("plain(15, 20)", y.plain(15, 20), 1080 + 15 * 120);
        check.due("plain(16, 20) would be 3000", y.plain(16, 20), -3);
        check.due("most(0)", y.most(0), 17);
        y.clock(0, -1);
        check.due("plain(16, 20)", y.plain(16, 20), 2999);
        check.due("plain(16, 1)", y.plain(16, 1), -3);
        DoorNet z = fifthFree(4, 2);
        check.due("plain(16, 31) would be 3000", z.plain(16, 31), -3);
        z.clock(0, -1);
        check.due("plain(16, 31)", z.plain(16, 31), 2999);
        check.due("plain(16, 21)", z.plain(16, 21), 2999);
        check.due("plain(16, 1)", z.plain(16, 1), -3);
        check.due("count(7)", z.count(7), 16);
    }

    private void most() {
        check.promise("promise 22, most");
        DoorNet x = Nets.chain(3, 0, 0, 1);
        check.due("most(0) without letters", x.most(0), 0);
        for (int w : new int[] {-1, 2, LOW, HIGH}) {
            check.due("most(" + w + ")", x.most(w), -1);
        }
        x.send(0, 0, 1, 4);
        check.due("one that begins at once does not wait", x.most(0), 0);
        x.send(1, 0, 2, 1);
        x.send(2, 0, 2, 1);
        x.send(4, 0, 2, 1);
        // at 2 and 3 two wait; at 4 one begins and one comes; at 5 one begins and one waits
        check.due("most(0)", x.most(0), 2);
        check.due("most(1)", x.most(1), 0);
        x.send(3, 0, 1, 1);
        check.due("most(0)", x.most(0), 3);
        x.send(5, 1, 2, 8);
        // 1 is in box 1 at 5, the lesser number; 4 takes the wire from 6 on, 2 and 3 come at 6 and 8
        check.due("most(1)", x.most(1), 2);
        check.due("most(0) stays", x.most(0), 3);
    }

    private void count() {
        check.promise("promise 23, count");
        DoorNet x = Nets.chain(3, 0, 0, 1);
        x.cycle(24);
        x.drift(3);
        x.stream(0, 1, 8, 12, 50);
        x.stream(0, 2, 1, 12, 50);
        x.stream(1, 2, 1, 24, 50);
        x.plan();
        x.strike(1);
        x.send(0, 0, 1, 4);
        x.send(0, 0, 1, 5);
        x.send(0, 1, 2, 5);
        int[] due = {3, 2, 24, 3, 3, 2, 3, 2};
        for (int what = 0; what < due.length; what++) {
            check.due("count(" + what + ")", x.count(what), due[what]);
        }
        for (int what : new int[] {-1, 8, LOW, HIGH}) {
            check.due("count(" + what + ")", x.count(what), -1);
        }
        x.strike(0);
        check.due("count(5)", x.count(5), 1);
        check.due("count(7)", x.count(7), 3);
    }

    /** No call may throw, whatever it is given and whenever. */
    private void anyNumbers() {
        check.promise("any numbers");
        int[] odd = {LOW, LOW + 1, LOW + 20, -1001, -2, -1, 0, 1, 2, 3, 4, 9, 12, 13, 24, 31, 32, 33, 63, 64, 999, HIGH};
        for (int a : odd) {
            for (int b : odd) {
                DoorNet[] nets = {new DoorNet(), Nets.oneWire(1, 1), usedChain()};
                for (DoorNet x : nets) {
                    callAll(x, a, b);
                    check.due("six boxes at most", x.count(0) <= 6, true);
                }
            }
        }
    }

    private static DoorNet usedChain() {
        DoorNet x = Nets.chain(6, 5, 9, 3);
        x.drift(3);
        x.stream(0, 4, 1, 12, 200);
        x.plan();
        x.send(5, 0, 4, 2);
        return x;
    }

    private static void callAll(DoorNet x, int a, int b) {
        for (int c : new int[] {LOW, -1, 0, 3, HIGH}) {
            x.box(a);
            x.wire(a, b, c, a);
            x.cycle(a);
            x.drift(b);
            x.way(a, b, c, a, b);
            x.way(0, 1, 1, a, b);
            x.stream(a, b, c, a, b);
            x.stream(0, 1, a, b, c);
            x.strike(a);
            x.place(a, b);
            x.door(a, b);
            x.waits(a, b, c);
            x.worst(a, b);
            x.clock(a, b);
            x.send(a, b, c, a);
            x.leaves(a, b, c);
            x.room(a, b, c);
            x.plain(a, b);
            x.most(a);
            x.count(a);
        }
        x.add();
    }
}
