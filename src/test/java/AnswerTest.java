/** The edges that the promises name of answers: each sentence by itself, most on nets whose wires differ. */
public final class AnswerTest {
    private static final int LOW = Integer.MIN_VALUE;
    private static final int HIGH = Integer.MAX_VALUE;
    private static final int[] CYCLES = {12, 24, 48, 60, 120};

    private final Check check = new Check();

    public static void main(String[] args) {
        AnswerTest test = new AnswerTest();
        test.noBoxes();
        test.driftRightsAllClocks();
        test.wayKth();
        test.wayWire();
        test.wayNoSuchBoxes();
        test.streamWithoutAPlace();
        test.strikeNoPlaceAnyMore();
        test.planNoneStaying();
        test.planOfNone();
        test.addOthersStaying();
        test.stirSetsOfNone();
        test.stirByHowMany();
        test.stirByTheLeastNumber();
        test.stirByTheNext();
        test.stirThreeAtMost();
        test.placeOfEach();
        test.placeForOthers();
        test.triesAheadOfAny();
        test.triesOfTheLatest();
        test.doorTicks();
        test.waitsForEver();
        test.waitsFromEachTick();
        test.waitsForDoorsAlone();
        test.worstOverAll();
        test.leavesLetters();
        test.leavesItsEnd();
        test.leavesNoneSuch();
        test.roomOfEach();
        test.roomAtTheWorst();
        test.roomNoneSuch();
        test.plainOfEach();
        test.plainForOthers();
        test.plainNotAheadOf3000();
        test.mostInOneTick();
        test.mostDidNotBegin();
        test.mostAheadOf3000();
        test.mostNoSuchWire();
        test.countOfEach();
        test.countEndedAheadOf3000();
        test.countForOthers();
        test.check.end();
    }

    /** Boxes with holds 5, 1, 2, 3, 4; wires of lengths 1, 0, 9, 2 and speeds 1, 2, 1, 3; a drift of 2. */
    private static DoorNet uneven() {
        DoorNet x = new DoorNet();
        for (int hold : new int[] {5, 1, 2, 3, 4}) {
            x.box(hold);
        }
        x.wire(0, 1, 1, 1);
        x.wire(1, 2, 0, 2);
        x.wire(2, 3, 9, 1);
        x.wire(3, 4, 2, 3);
        x.cycle(24);
        x.drift(2);
        return x;
    }

    /** The same with a stream of size 2 over all wires, at tick 2, each 12; one more has tick 0. */
    private static DoorNet unevenStream() {
        DoorNet x = uneven();
        x.stream(0, 1, 2, 12, 50);
        x.stream(0, 4, 2, 12, 200);
        x.plan();
        return x;
    }

    private void noBoxes() {
        check.promise("promise 1: 'No BOXES'");
        DoorNet x = new DoorNet();
        int[] due = {0, 0, 12, 0, 0, 0, 0, 0};
        for (int what = 0; what < 8; what++) {
            check.due("count(" + what + ")", x.count(what), due[what]);
        }
        check.due("tries()", x.tries(), 0);
        check.due("way", x.way(0, 0, 1, 0, 4), -1);
        check.due("wire", x.wire(0, 1, 0, 1), -1);
        check.due("stream", x.stream(0, 1, 1, 12, 200), -1);
        check.due("strike", x.strike(0), false);
        check.due("plan()", x.plan(), 1);
        check.due("add()", x.add(), 1);
        check.due("stir()", x.stir(), 0);
        check.due("place", x.place(0, 0), -1);
        check.due("door", x.door(0, 0), -2);
        check.due("waits", x.waits(0, 0, 1), -2);
        check.due("worst", x.worst(0, 1), -2);
        check.due("clock", x.clock(0, 0), false);
        check.due("send", x.send(0, 0, 1, 1), -1);
        check.due("leaves", x.leaves(0, 0, 0), -1000);
        check.due("room", x.room(0, 0, 1), -1000);
        check.due("plain", x.plain(0, 0), -1);
        check.due("most", x.most(0), -1);
        check.due("box", x.box(0), 0);
    }

    private void driftRightsAllClocks() {
        check.promise("promise 5: 'true, and all clocks are right'");
        DoorNet x = Nets.boxes(6, 0);
        for (int b = 0; b < 6; b++) {
            x.wire(b, (b + 1) % 6, 0, 1);
        }
        x.drift(3);
        for (int b = 0; b < 6; b++) {
            x.clock(b, b % 2 == 0 ? 3 : -3);
        }
        check.due("drift(3), the same once more", x.drift(3), true);
        for (int b = 0; b < 6; b++) {
            x.stream(b, (b + 1) % 6, 1, 12, 1);
        }
        x.plan();
        for (int b = 0; b < 6; b++) {
            check.due("box " + b, x.leaves(b, 0, 0), 0);
        }
    }

    private void wayKth() {
        check.promise("promise 6: 'the k-th WAY (from 0 on)'");
        DoorNet x = Nets.wires(12, 0, 1);
        for (int k = 0; k < 12; k++) {
            check.due("way " + k, x.way(0, 1, 1, k, 0), k);
        }
        for (int k : new int[] {-1, 12, 13, 793, LOW, HIGH}) {
            check.due("way " + k, x.way(0, 1, 1, k, 0), -1);
            check.due("lateness of way " + k, x.way(0, 1, 1, k, 4), -1);
        }
    }

    private void wayWire() {
        check.promise("promise 6: 'WIRE i (0 .. 3) ..; i 4: its LATENESS. NONE if there is none such'");
        DoorNet x = uneven();
        for (int b = 1; b <= 4; b++) {
            for (int i = 0; i < 4; i++) {
                check.due("to " + b + ", wire " + i, x.way(0, b, 1, 0, i), i < b ? i : -1);
            }
            for (int i : new int[] {-1, 5, 6, LOW, HIGH}) {
                check.due("to " + b + ", i " + i, x.way(0, b, 1, 0, i), -1);
            }
        }
        // 1 + 1, 1 + 4, 2 + 0, 2 + 4, 1 + 9
        check.due("lateness", x.way(0, 3, 1, 0, 4), 2 + 5 + 2 + 6 + 10);
    }

    private void wayNoSuchBoxes() {
        check.promise("promise 6: 'NONE if there is none such, no such BOXES, SIZE'");
        DoorNet x = uneven();
        for (int b : new int[] {-1, 5, 6, 31, 32, 33, LOW, HIGH}) {
            check.due("from " + b, x.way(b, 1, 1, 0, 0), -1);
            check.due("to " + b, x.way(0, b, 1, 0, 0), -1);
        }
        for (int size : new int[] {-1, 0, 9, LOW, HIGH}) {
            check.due("size " + size, x.way(0, 1, size, 0, 0), -1);
        }
        check.due("none back", x.way(4, 0, 1, 0, 0), -1);
    }

    private void streamWithoutAPlace() {
        check.promise("promise 7: 'A STREAM more, without a PLACE'");
        DoorNet x = Nets.row(3);
        check.due("stream", x.stream(0, 1, 1, 12, 50), 1);
        check.due("count(5)", x.count(5), 1);
        check.due("place(1, 0)", x.place(1, 0), -1);
        check.due("leaves", x.leaves(1, 0, 0), -1000);
        check.due("door(0, 3)", x.door(0, 3), -1);
        check.due("the other one stays", x.door(0, 2), 0);
    }

    private void strikeNoPlaceAnyMore() {
        check.promise("promise 8: 'A STREAM has no PLACE any more: true'");
        DoorNet x = Nets.row(3, 3);
        x.send(0, 0, 1, 3);
        check.due("a letter behind both", x.plain(0, 20), 6);
        check.due("strike(0)", x.strike(0), true);
        check.due("place(0, 0)", x.place(0, 0), -1);
        check.due("room", x.room(0, 0, 1), -1000);
        check.due("a letter in its stead", x.plain(0, 20), 0);
        check.due("door(0, 0)", x.door(0, 0), -1);
        check.due("the other one stays", x.place(1, 1), 3);
        check.due("its door too", x.door(0, 3), 1);
        check.due("count(4)", x.count(4), 2);
        check.due("count(5)", x.count(5), 1);
    }

    private void planNoneStaying() {
        check.promise("promise 9: 'The first PLAN of all STREAMS, none staying, is theirs: 1'");
        DoorNet x = Nets.row(3, 3);
        x.stream(0, 1, 3, 6, 50);
        check.due("add()", x.add(), 0);
        check.due("plan() moves stream 1", x.plan(), 1);
        ticksAre(x, 0, 6, 3);
        check.due("plan() again finds the same", x.plan(), 1);
        ticksAre(x, 0, 6, 3);
    }

    private void planOfNone() {
        check.promise("promises 9 to 11, of no streams");
        DoorNet x = Nets.oneWire(0, 1);
        check.due("plan()", x.plan(), 1);
        check.due("add()", x.add(), 1);
        check.due("stir()", x.stir(), 0);
        check.due("tries()", x.tries(), 0);
        DoorNet y = Nets.row(3);
        check.due("add() where all have a place", y.add(), 1);
        check.due("stir() where all have a place", y.stir(), 0);
        check.due("tries()", y.tries(), 0);
        check.due("place(0, 1)", y.place(0, 1), 0);
    }

    private void addOthersStaying() {
        check.promise("promise 10: 'all others staying'");
        // Stream 0 would be first in a plan; here it has what is left.
        DoorNet x = Nets.row(2, 3);
        x.strike(0);
        x.stream(0, 1, 7, 12, 50);
        check.due("add()", x.add(), 1);
        check.due("stream 0", x.place(0, 1), 0);
        check.due("stream 1", x.place(1, 1), 2);
        check.due("stream 2", x.place(2, 1), 5);
        x.strike(0);
        x.strike(2);
        x.stream(0, 1, 2, 12, 50);
        // 0 .. 1 and 5 .. 11 are left for 2 (stream 0), 7 (stream 2) and 2 (stream 3).
        check.due("add() of one too many", x.add(), 0);
        check.due("stream 1 stays", x.place(1, 1), 2);
        check.due("count(5)", x.count(5), 1);
    }

    private void stirSetsOfNone() {
        check.promise("promise 11: 'Of sets of 0 .. 3 STREAMS': of none");
        DoorNet x = Nets.row(3, 3);
        x.strike(0);
        x.stream(0, 1, 3, 12, 50);
        check.due("stir()", x.stir(), 0);
        check.due("stream 0", x.place(0, 1), 0);
        check.due("stream 1 stays", x.place(1, 1), 3);
        check.due("stream 2", x.place(2, 1), 6);
        check.due("tries()", x.tries(), 1 + 7);
    }

    /** Streams of size 1 and a period on wire 0, then streams of a size on wire 1, all with a place. */
    private static DoorNet twoWires(int elsewhere, int period, int many, int size) {
        DoorNet x = Nets.boxes(4, 0);
        x.wire(0, 1, 0, 1);
        x.wire(2, 3, 0, 1);
        for (int s = 0; s < elsewhere; s++) {
            x.stream(0, 1, 1, period, 50);
        }
        for (int s = 0; s < many; s++) {
            x.stream(2, 3, size, 12, 50);
        }
        x.plan();
        return x;
    }

    private void ticksAre(DoorNet x, int... due) {
        for (int s = 0; s < due.length; s++) {
            check.due("place(" + s + ", 1)", x.place(s, 1), due[s]);
        }
    }

    private void stirByHowMany() {
        check.promise("promise 11: 'by how many there are': one is ahead of two");
        // {2} helps, and {0, 2} would; {0} and {1} do not.
        DoorNet x = twoWires(2, 12, 2, 2);
        x.stream(2, 3, 4, 6, 50);
        check.due("add()", x.add(), 0);
        check.due("stir()", x.stir(), 1);
        ticksAre(x, 0, 1, 8, 2, 4);
        // None: 6. {0}, {1}: 12 each, 11 of them with 6 behind; {2}: ticks 0 .. 8, 6 of them with 6
        check.due("tries()", x.tries(), 6 + 2 * (12 + 11 * 6) + 9 + 5 * 6 + 5);
    }

    private void stirByTheLeastNumber() {
        check.promise("promise 11: 'then by the least number'");
        // Either of the two could be moved: the lesser one is.
        DoorNet x = twoWires(0, 12, 2, 3);
        x.stream(2, 3, 3, 6, 50);
        check.due("stir()", x.stir(), 1);
        ticksAre(x, 9, 3, 0);
        // The lesser one can't: it has one more place alone, on the wire that is full.
        DoorNet y = Nets.boxes(2, 0);
        y.wire(0, 1, 0, 1);
        y.wire(0, 1, 1, 1);
        y.stream(0, 1, 6, 12, 6);
        y.stream(0, 1, 6, 12, 50);
        y.plan();
        y.stream(0, 1, 6, 12, 6);
        check.due("stir()", y.stir(), 1);
        check.due("stream 0 stays", y.place(0, 0), 0);
        check.due("stream 1 has the other wire", y.place(1, 0), 1);
        check.due("stream 2 is in its stead", y.place(2, 1), 6);
    }

    private void stirByTheNext() {
        check.promise("promise 11: 'the next, ..'");
        // Ticks 0 and 2 or ticks 1 and 3 must go: {1, 3} is the first set of streams 1 .. 4.
        DoorNet x = twoWires(1, 2, 4, 1);
        x.stream(2, 3, 1, 2, 50);
        check.due("stir() of two", x.stir(), 2);
        ticksAre(x, 0, 5, 1, 7, 3, 0);
        DoorNet y = twoWires(1, 2, 6, 1);
        y.stream(2, 3, 1, 2, 50);
        check.due("stir() of three", y.stir(), 3);
        ticksAre(y, 0, 7, 1, 9, 3, 11, 5, 0);
    }

    private void stirThreeAtMost() {
        check.promise("promise 11: 'sets of 0 .. 3': not of four");
        for (int many = 1; many <= 4; many++) {
            DoorNet x = Nets.boxes(2, 0);
            x.wire(0, 1, 0, 1);
            x.wire(0, 1, 1, 1);
            for (int s = 0; s < many; s++) {
                x.stream(0, 1, 1, 4, 50);
            }
            x.plan();
            x.stream(0, 1, 2, 2, 2);
            check.due("of " + many, x.stir(), many <= 3 ? many : -1);
            for (int s = 0; s < many; s++) {
                check.due("choice", x.place(s, 0), many <= 3 ? 1 : 0);
            }
            check.due("the new one", x.place(many, 0), many <= 3 ? 0 : -1);
        }
    }

    private void placeOfEach() {
        check.promise("promise 12: 'Of a STREAM with a PLACE'");
        DoorNet x = unevenStream();
        check.due("choice", x.place(1, 0), 0);
        check.due("tick", x.place(1, 1), 2);
        check.due("wires", x.place(1, 2), 4);
        // 2 + 1, 1 + 4, 4 + 0, 2 + 4, 2 + 9, 3 + 4, 6 + 2
        int[] starts = {2, 2 + 3 + 5, 10 + 4 + 6, 20 + 11 + 7};
        check.due("lateness", x.place(1, 3), 3 + 5 + 4 + 6 + 11 + 7 + 8);
        for (int k = 0; k < 4; k++) {
            check.due("wire " + k, x.place(1, 10 + k), k);
            check.due("start " + k, x.place(1, 20 + k), starts[k]);
        }
        DoorNet y = Nets.wires(4, 0, 1);
        for (int s = 0; s < 3; s++) {
            y.stream(0, 1, 8, 12, 50);
        }
        y.plan();
        for (int s = 0; s < 3; s++) {
            check.due("the choices are 0 .. 2", y.place(s, 0), s);
        }
    }

    private void placeForOthers() {
        check.promise("promise 12: 'NONE for others'");
        DoorNet x = unevenStream();
        for (int what : new int[] {-1, 4, 5, 9, 14, 15, 19, 24, 25, 29, 30, 33, LOW, LOW + 10, LOW + 20, HIGH}) {
            check.due("what " + what, x.place(1, what), -1);
        }
        for (int what : new int[] {11, 12, 13, 21, 22, 23}) {
            check.due("what " + what + " of one wire", x.place(0, what), -1);
        }
        x.strike(1);
        for (int s : new int[] {-1, 1, 2, 8, LOW, HIGH}) {
            for (int what : new int[] {0, 1, 2, 3, 10, 20}) {
                check.due("stream " + s + ", what " + what, x.place(s, what), -1);
            }
        }
    }

    private void triesAheadOfAny() {
        check.promise("promise 13: '0 ahead of any'");
        DoorNet x = Nets.oneWire(0, 1);
        check.due("tries()", x.tries(), 0);
        x.stream(0, 1, 1, 12, 50);
        x.strike(0);
        x.send(0, 0, 1, 1);
        x.plain(0, 1);
        check.due("tries()", x.tries(), 0);
    }

    private void triesOfTheLatest() {
        check.promise("promise 13: 'TRIES of the latest plan(), add() or stir()'");
        DoorNet x = Nets.row(4, 4);
        check.due("plan()", x.tries(), 1 + 5);
        x.strike(1);
        check.due("a strike is none", x.tries(), 6);
        x.add();
        check.due("add()", x.tries(), 5);
        x.stream(0, 1, 4, 12, 50);
        check.due("a stream is none", x.tries(), 5);
        x.stir();
        check.due("stir()", x.tries(), 9);
        x.add();
        check.due("add() of none", x.tries(), 0);
        x.plan();
        check.due("plan()", x.tries(), 1 + 5 + 9);
        x.stir();
        check.due("stir() of none", x.tries(), 0);
    }

    private void doorTicks() {
        check.promise("promise 14: 'at TICK t of its clock (0 .. CYCLE - 1) ..; -2: no such WIRE, TICK'");
        for (int h : CYCLES) {
            DoorNet x = Nets.oneWire(0, 1);
            x.cycle(h);
            x.stream(0, 1, 1, h, 50);
            x.plan();
            check.due("cycle " + h + ", tick 0", x.door(0, 0), 0);
            check.due("cycle " + h + ", the last tick", x.door(0, h - 1), -1);
            for (int t : new int[] {-1, h, h + 1, 2 * h, LOW, HIGH}) {
                check.due("cycle " + h + ", tick " + t, x.door(0, t), -2);
            }
            for (int w : new int[] {-1, 1, 12, LOW, HIGH}) {
                check.due("wire " + w, x.door(w, 0), -2);
            }
        }
    }

    private void waitsForEver() {
        check.promise("promise 15: 'NONE: for ever; -2: no such ones'");
        DoorNet x = Nets.row(8);
        for (int t = 0; t < 12; t++) {
            check.due("four are free", x.waits(0, t, 5), -1);
        }
        check.due("just four", x.waits(0, 9, 4), 11);
        for (int t : new int[] {-1, 12, LOW, HIGH}) {
            check.due("tick " + t, x.waits(0, t, 1), -2);
            check.due("tick " + t + ", for ever", x.waits(0, t, 5), -2);
        }
        for (int w : new int[] {-1, 1, LOW, HIGH}) {
            check.due("wire " + w, x.waits(w, 0, 1), -2);
        }
        for (int size : new int[] {-1, 0, 9, LOW, HIGH}) {
            check.due("size " + size, x.waits(0, 0, size), -2);
        }
    }

    private void waitsFromEachTick() {
        check.promise("promise 15: 'How many TICKS from TICK t (0 .. CYCLE - 1)'");
        for (int h : CYCLES) {
            DoorNet x = Nets.oneWire(0, 2);
            x.cycle(h);
            x.stream(0, 1, 3, h, 50);
            x.plan();
            // Taken: 0 .. 5; a letter of size 2 takes four ticks.
            for (int t = 0; t < h; t++) {
                int due = t < 6 ? 6 - t : t <= h - 4 ? 0 : h - t + 6;
                check.due("cycle " + h + ", waits(0, " + t + ", 2)", x.waits(0, t, 2), due);
            }
            check.due("cycle " + h + ", worst(0, 2)", x.worst(0, 2), 9);
            check.due("cycle " + h + ", waits(0, " + h + ", 2)", x.waits(0, h, 2), -2);
        }
    }

    private void waitsForDoorsAlone() {
        check.promise("promise 15: 'would wait for the doors of a WIRE alone'");
        DoorNet x = Nets.row(3);
        for (int l = 0; l < 20; l++) {
            x.send(0, 0, 1, 8);
        }
        check.due("plain letters count nothing", x.waits(0, 3, 8), 0);
        check.due("nor for the worst", x.worst(0, 8), 10);
    }

    private void worstOverAll() {
        check.promise("promise 16: 'The greatest of these over all t; NONE: for ever; -2: no such ones'");
        // Free: 3 .. 4 and 8 .. 11. From 4 on two ticks wait till 8; from 11 on till 15; from 5 on three.
        DoorNet x = Nets.row(3, 2, 3);
        x.strike(1);
        int[] due = {3, 4, 10, 11, -1, -1, -1, -1};
        for (int size = 1; size <= 8; size++) {
            check.due("worst(0, " + size + ")", x.worst(0, size), due[size - 1]);
        }
        for (int w : new int[] {-1, 1, LOW, HIGH}) {
            check.due("wire " + w, x.worst(w, 1), -2);
        }
        for (int size : new int[] {-1, 0, 9, LOW, HIGH}) {
            check.due("size " + size, x.worst(0, size), -2);
        }
        check.due("no doors at all", Nets.oneWire(0, 3).worst(0, 8), 0);
    }

    private void leavesLetters() {
        check.promise("promise 19: 'the n-th letter (from 0 on, 0 .. 99)'");
        DoorNet x = unevenStream();
        x.clock(0, -2);
        x.clock(1, 1);
        x.clock(2, 2);
        x.clock(3, -1);
        int[] due = {2 - 2, 10 + 1, 20 + 2, 38 - 1};
        for (int k = 0; k < 4; k++) {
            check.due("letter 0, wire " + k, x.leaves(1, 0, k), due[k]);
            check.due("letter 1, wire " + k, x.leaves(1, 1, k), due[k] + 12);
            check.due("letter 99, wire " + k, x.leaves(1, 99, k), due[k] + 99 * 12);
        }
        DoorNet y = Nets.oneWire(0, 1);
        y.cycle(120);
        y.stream(0, 1, 1, 120, 50);
        y.plan();
        check.due("the greatest of all", y.leaves(0, 99, 9), 99 * 120 + 1);
    }

    private void leavesItsEnd() {
        check.promise("promise 19: 'k 9: at which it is wholly at its end'");
        DoorNet x = unevenStream();
        check.due("over four wires", x.leaves(1, 0, 9), 2 + 44);
        check.due("over one wire", x.leaves(0, 3, 9), 36 + 3);
        x.clock(3, 2);
        check.due("by the last wire's clock", x.leaves(1, 0, 9), 48);
        x.clock(4, -2);
        x.clock(0, -2);
        check.due("and by that alone", x.leaves(1, 0, 9), 48);
        check.due("that of one wire", x.leaves(0, 3, 9), 37);
    }

    private void leavesNoneSuch() {
        check.promise("promise 19: '-1000: there is none such'");
        DoorNet x = unevenStream();
        for (int s : new int[] {-1, 2, 8, LOW, HIGH}) {
            check.due("stream " + s, x.leaves(s, 0, 0), -1000);
            check.due("stream " + s + ", end", x.leaves(s, 0, 9), -1000);
        }
        for (int n : new int[] {-1, 100, LOW, HIGH}) {
            check.due("letter " + n, x.leaves(0, n, 0), -1000);
            check.due("letter " + n + ", end", x.leaves(0, n, 9), -1000);
        }
        for (int k : new int[] {-1, 4, 5, 8, 10, LOW, HIGH}) {
            check.due("wire " + k, x.leaves(1, 0, k), -1000);
        }
        check.due("a second wire of one", x.leaves(0, 0, 1), -1000);
        x.strike(1);
        check.due("without a place", x.leaves(1, 0, 0), -1000);
    }

    private void roomOfEach() {
        check.promise("promise 20: 'since it could go on without anything for DRIFT'");
        DoorNet x = unevenStream();
        for (int k = 1; k < 4; k++) {
            check.due("all clocks right, wire " + k, x.room(1, 5, k), 4);
        }
        x.clock(0, 1);
        x.clock(1, -1);
        x.clock(2, 2);
        x.clock(3, 0);
        int[] due = {2, 7, 2};
        for (int k = 1; k < 4; k++) {
            check.due("wire " + k, x.room(1, 0, k), due[k - 1]);
            check.due("wire " + k + ", letter 99", x.room(1, 99, k), due[k - 1]);
        }
    }

    private void roomAtTheWorst() {
        check.promise("promise 20: none at the worst, four times the drift at the best");
        for (int d = 0; d <= 3; d++) {
            DoorNet x = Nets.chain(3, 2, 3, 1);
            x.drift(d);
            x.stream(0, 2, 1, 12, 50);
            x.plan();
            x.clock(0, d);
            x.clock(1, -d);
            check.due("drift " + d + ", the worst", x.room(0, 0, 1), 0);
            x.clock(0, -d);
            x.clock(1, d);
            check.due("drift " + d + ", the best", x.room(0, 0, 1), 4 * d);
        }
    }

    private void roomNoneSuch() {
        check.promise("promise 20: 'the k-th WIRE (1 .. 3) ..; -1000: there is none such'");
        DoorNet x = unevenStream();
        for (int k : new int[] {-1, 0, 4, 5, 9, LOW, HIGH}) {
            check.due("wire " + k, x.room(1, 0, k), -1000);
        }
        for (int k = 1; k <= 3; k++) {
            check.due("wire " + k + " of one", x.room(0, 0, k), -1000);
        }
        for (int n : new int[] {-1, 100, LOW, HIGH}) {
            check.due("letter " + n, x.room(1, n, 1), -1000);
        }
        for (int s : new int[] {-1, 2, LOW, HIGH}) {
            check.due("stream " + s, x.room(s, 0, 1), -1000);
        }
        x.strike(1);
        check.due("without a place", x.room(1, 0, 1), -1000);
    }

    private void plainOfEach() {
        check.promise("promise 21: 'Of plain letter l, as all is told now'");
        DoorNet x = uneven();
        x.send(7, 0, 4, 3);
        check.due("wires", x.plain(0, 0), 4);
        int[] waited = {7, 7 + 4 + 1, 12 + 6 + 2, 20 + 12 + 3};
        for (int k = 0; k < 4; k++) {
            check.due("wire " + k, x.plain(0, 10 + k), k);
            check.due("begins " + k, x.plain(0, 20 + k), waited[k]);
            check.due("waited " + k, x.plain(0, 30 + k), waited[k]);
        }
        check.due("end", x.plain(0, 1), 35 + 9 + 2);
        // One that begins later than it could.
        x.send(6, 0, 1, 5);
        check.due("it waited from", x.plain(0, 30), 7);
        check.due("it begins", x.plain(0, 20), 11);
        check.due("the next wire", x.plain(0, 31), 16);
    }

    private void plainForOthers() {
        check.promise("promise 21: 'NONE for others'");
        DoorNet x = uneven();
        x.send(0, 0, 4, 1);
        x.send(0, 0, 1, 1);
        for (int what : new int[] {-1, 2, 3, 9, 14, 19, 24, 29, 34, 35, 40, LOW, LOW + 20, LOW + 30, HIGH}) {
            check.due("what " + what, x.plain(0, what), -1);
        }
        for (int what : new int[] {11, 12, 13, 21, 22, 23, 31, 32, 33}) {
            check.due("what " + what + " of one wire", x.plain(1, what), -1);
        }
        for (int l : new int[] {-1, 2, 59, 60, LOW, HIGH}) {
            for (int what : new int[] {0, 1, 10, 20, 30}) {
                check.due("letter " + l + ", what " + what, x.plain(l, what), -1);
            }
        }
    }

    /**
     * Wire 0 has 24 ticks of 120 for plain letters, from 96 on: 17 of them are sent from 0 to 2 and
     * begin at 1056, 1176, .. 2976. Wire 1 has none if it is full.
     */
    private static DoorNet nearTheEnd(boolean full) {
        DoorNet x = Nets.boxes(3, 0);
        x.wire(0, 1, 0, 3);
        x.wire(1, 2, 0, 1);
        x.cycle(120);
        x.drift(1);
        for (int s = 0; s < 5; s++) {
            x.stream(0, 1, 8, 120, 50);
        }
        if (full) {
            x.stream(1, 2, 2, 2, 50);
        }
        x.plan();
        x.strike(4);
        for (int l = 0; l < 17; l++) {
            x.send(999, 0, 2, 8);
        }
        return x;
    }

    private void plainNotAheadOf3000() {
        check.promise("promise 21: '-3: not ahead of TICK 3000'");
        DoorNet x = nearTheEnd(false);
        check.due("begins at", x.plain(16, 20), 2976);
        check.due("would be there at 3000", x.plain(16, 31), -3);
        check.due("would begin at 3000", x.plain(16, 21), -3);
        check.due("would be at its end at 3008", x.plain(16, 1), -3);
        check.due("but its wires are known", x.plain(16, 0), 2);
        check.due("but its wires are known", x.plain(16, 11), 1);
        x.clock(0, -1);
        check.due("is there at", x.plain(16, 31), 2999);
        check.due("begins at", x.plain(16, 21), 2999);
        check.due("would be at its end at 3007", x.plain(16, 1), -3);
        DoorNet y = nearTheEnd(true);
        check.due("a wire that is full", y.plain(0, 21), -3);
        check.due("from when on it waited", y.plain(0, 31), 1080);
    }

    private void mostInOneTick() {
        check.promise("promise 22: 'The most plain letters that wait for a WIRE in one TICK'");
        // Three wait at tick 2, two at tick 20: it is not all that ever wait.
        DoorNet x = Nets.oneWire(0, 1);
        x.send(0, 0, 1, 8);
        x.send(1, 0, 1, 1);
        x.send(2, 0, 1, 1);
        x.send(2, 0, 1, 1);
        x.send(19, 0, 1, 8);
        x.send(20, 0, 1, 1);
        x.send(20, 0, 1, 1);
        check.due("most(0)", x.most(0), 3);
        x.send(10, 0, 1, 1);
        check.due("one behind them", x.most(0), 3);
        x.send(7, 0, 1, 1);
        check.due("one beside them", x.most(0), 4);
    }

    private void mostDidNotBegin() {
        check.promise("promise 22: 'those that could go on and did not begin in it or ahead'");
        DoorNet x = Nets.oneWire(0, 1);
        x.send(0, 0, 1, 1);
        x.send(1, 0, 1, 1);
        x.send(2, 0, 1, 1);
        check.due("each begins at once", x.most(0), 0);
        x.send(2, 0, 1, 1);
        check.due("one does not", x.most(0), 1);
        x.send(3, 0, 1, 1);
        check.due("at 3 one begins and one comes", x.most(0), 1);
        DoorNet y = Nets.row(3);
        y.send(2, 0, 1, 1);
        check.due("one that waits for doors for one tick", y.most(0), 1);
        y.strike(0);
        check.due("and without them", y.most(0), 0);
    }

    private void mostAheadOf3000() {
        check.promise("promise 22: 'ahead of TICK 3000'");
        DoorNet x = nearTheEnd(true);
        check.due("the last one would come at 3000", x.most(1), 16);
        check.due("all wait for the first wire", x.most(0), 17);
        x.clock(0, -1);
        check.due("it comes at 2999", x.most(1), 17);
    }

    private void mostNoSuchWire() {
        check.promise("promise 22: 'NONE: no such WIRE'");
        DoorNet x = Nets.wires(12, 0, 1);
        for (int w : new int[] {-1, 12, 13, LOW, HIGH}) {
            check.due("most(" + w + ")", x.most(w), -1);
        }
        check.due("the first", x.most(0), 0);
        check.due("the last", x.most(11), 0);
    }

    private void countOfEach() {
        check.promise("promise 23: '0 BOXES, 1 WIRES, 2 the CYCLE, 3 the DRIFT, 4 STREAMS, ..'");
        DoorNet x = Nets.boxes(6, 1);
        for (int w = 0; w < 12; w++) {
            x.wire(w % 5, w % 5 + 1, 0, 1);
        }
        x.cycle(120);
        x.drift(3);
        for (int s = 0; s < 8; s++) {
            x.stream(0, 1, 1, 120, 50);
        }
        x.plan();
        for (int l = 0; l < 60; l++) {
            x.send(0, 0, 1, 1);
        }
        int[] all = {6, 12, 120, 3, 8, 8, 60, 60};
        for (int what = 0; what < 8; what++) {
            check.due("count(" + what + ")", x.count(what), all[what]);
        }
        x.strike(0);
        x.strike(7);
        check.due("those with a place", x.count(5), 6);
        check.due("streams stay", x.count(4), 8);
    }

    private void countEndedAheadOf3000() {
        check.promise("promise 23: '7 those that are wholly at their end ahead of TICK 3000'");
        check.due("the last is at 3000 between", nearTheEnd(false).count(7), 16);
        check.due("a wire that is full", nearTheEnd(true).count(7), 0);
        DoorNet x = Nets.boxes(2, 0);
        x.wire(0, 1, 0, 3);
        x.cycle(120);
        x.drift(1);
        for (int s = 0; s < 5; s++) {
            x.stream(0, 1, 8, 120, 50);
        }
        x.plan();
        x.strike(4);
        for (int l = 0; l < 17; l++) {
            x.send(999, 0, 1, 8);
        }
        check.due("the last would be at its end at 3000", x.count(7), 16);
        x.clock(0, -1);
        check.due("the last is at its end at 2999", x.count(7), 17);
        check.due("its end", x.plain(16, 1), 2999);
    }

    private void countForOthers() {
        check.promise("promise 23: 'NONE for others'");
        for (int what : new int[] {-1, 8, 9, LOW, HIGH}) {
            check.due("count(" + what + ")", unevenStream().count(what), -1);
            check.due("count(" + what + ") of a new object", new DoorNet().count(what), -1);
        }
    }
}
