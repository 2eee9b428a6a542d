/** The edges that the document names of doors, clocks and plain letters. */
public final class LetterTermsTest {
    private final Check check = new Check();

    public static void main(String[] args) {
        LetterTermsTest test = new LetterTermsTest();
        test.doorsOfStreams();
        test.doorsAheadOfTheFirstLetter();
        test.wholeTime();
        test.wholeTimeOverTheEnd();
        test.timeBeyondTheCycle();
        test.clockRange();
        test.clocksAtFirst();
        test.clockShows();
        test.sixtyLetters();
        test.ticksOfLetters();
        test.byTheFirstWay();
        test.ownTickInTheFirstBox();
        test.holdBehindAndNothingForDrift();
        test.couldGoOnFirst();
        test.theLesserNumber();
        test.noOtherAhead();
        test.eachWireByItself();
        test.noPlainLetterThere();
        test.doorsByTheClock();
        test.check.end();
    }

    /** One wire, a drift of 3, and a stream that has ticks 0 .. 5 of 12. */
    private static DoorNet halfTaken() {
        DoorNet x = Nets.oneWire(0, 1);
        x.drift(3);
        x.stream(0, 1, 6, 12, 50);
        x.plan();
        return x;
    }

    private void doorsOfStreams() {
        check.promise("'the door of the STREAM is open that has the WIRE then ..; else that of plain letters'");
        DoorNet x = Nets.row(1, 8, 2);
        int[] due = {0, 1, 1, 1, 1, 1, 1, 1, 1, 2, 2, -1};
        for (int t = 0; t < 12; t++) {
            check.due("door(0, " + t + ")", x.door(0, t), due[t]);
        }
        x.strike(1);
        for (int t = 0; t < 12; t++) {
            check.due("door(0, " + t + ") behind a strike", x.door(0, t), due[t] == 1 ? -1 : due[t]);
        }
        DoorNet y = Nets.row(1, 8, 2, 1);
        check.due("no plain door at all", y.waits(0, 0, 1), -1);
        check.due("the last tick", y.door(0, 11), 3);
    }

    private void doorsAheadOfTheFirstLetter() {
        check.promise("'by rests by the CYCLE, also ahead of its first letter'");
        DoorNet x = Nets.chain(3, 5, 8, 1);
        x.stream(0, 2, 1, 12, 50);
        x.plan();
        check.due("its first letter is there at", x.leaves(0, 0, 1), 14);
        check.due("door(1, 2)", x.door(1, 2), 0);
        x.send(2, 1, 2, 1);
        check.due("a letter of tick 2 waits", x.plain(0, 20), 3);
        DoorNet y = Nets.chain(3, 5, 8, 1);
        y.stream(0, 2, 1, 12, 50);
        y.plan();
        y.send(1, 1, 2, 2);
        y.send(0, 0, 1, 1);
        check.due("a letter of two ticks from 1 on would meet the door", y.plain(0, 20), 3);
        check.due("the first wire's door at tick 0", y.plain(1, 20), 1);
    }

    private void wholeTime() {
        check.promise("'A plain letter begins only where its whole TIME there has the plain door open'");
        // free: 3 .. 5 and 10 .. 11
        int[] ticks = {0, 3, 4, 5, 6, 10, 11};
        int[][] begins = {{3, 3, 4, 5, 10, 10, 11}, {3, 3, 4, 10, 10, 10, 15}, {3, 3, 15, 15, 15, 15, 15},
            {-3, -3, -3, -3, -3, -3, -3}};
        for (int size = 1; size <= 4; size++) {
            for (int j = 0; j < ticks.length; j++) {
                DoorNet x = Nets.row(3, 3, 4);
                x.strike(1);
                x.send(ticks[j], 0, 1, size);
                check.due("size " + size + ", tick " + ticks[j], x.plain(0, 20), begins[size - 1][j]);
            }
        }
    }

    private void wholeTimeOverTheEnd() {
        check.promise("'its whole TIME': doors that are open over the cycle's end");
        // free: 9 .. 11 and 0 .. 2
        int[] begins = {1, 1, 9, 9, 9, 9, -3, -3};
        int[] waits = {0, 0, 8, 8, 8, 8, -1, -1};
        int[] worst = {6, 7, 8, 9, 10, 11, -1, -1};
        for (int size = 1; size <= 8; size++) {
            DoorNet x = Nets.row(3, 6);
            x.strike(0);
            x.send(1, 0, 1, size);
            check.due("size " + size, x.plain(0, 20), begins[size - 1]);
            check.due("waits(0, 1, " + size + ")", x.waits(0, 1, size), waits[size - 1]);
            check.due("worst(0, " + size + ")", x.worst(0, size), worst[size - 1]);
        }
    }

    private void timeBeyondTheCycle() {
        check.promise("'its whole TIME': one that is longer than the cycle");
        DoorNet x = Nets.oneWire(0, 3);
        x.send(7, 0, 1, 8);
        check.due("without streams it begins at once", x.plain(0, 20), 7);
        check.due("waits(0, 11, 8)", x.waits(0, 11, 8), 0);
        check.due("worst(0, 8)", x.worst(0, 8), 0);
        x.stream(0, 1, 1, 12, 50);
        x.plan();
        check.due("beside a stream never", x.plain(0, 20), -3);
        check.due("waits(0, 11, 8)", x.waits(0, 11, 8), -1);
        check.due("worst(0, 8)", x.worst(0, 8), -1);
        check.due("waits(0, 3, 3) of nine ticks", x.waits(0, 3, 3), 0);
        check.due("waits(0, 4, 3) of nine ticks", x.waits(0, 4, 3), 11);
        check.due("waits(0, 3, 4) of twelve ticks", x.waits(0, 3, 4), -1);
    }

    private void clockRange() {
        check.promise("'A BOX's clock is off by some TICKS, - DRIFT .. DRIFT'");
        for (int d = 0; d <= 3; d++) {
            DoorNet x = Nets.oneWire(0, 1);
            x.drift(d);
            x.stream(0, 1, 1, 12, 50);
            x.plan();
            for (int e = -5; e <= 5; e++) {
                boolean is = e >= -d && e <= d;
                x.clock(0, 0);
                check.due("drift " + d + ": clock(0, " + e + ")", x.clock(0, e), is);
                check.due("drift " + d + ": leaves", x.leaves(0, 0, 0), is ? e : 0);
            }
        }
    }

    private void clocksAtFirst() {
        check.promise("'(0 at first)': clocks");
        DoorNet x = Nets.boxes(1, 0);
        x.drift(3);
        x.clock(0, 3);
        x.box(0);
        x.wire(0, 1, 0, 1);
        x.wire(1, 0, 0, 1);
        x.stream(0, 1, 1, 12, 50);
        x.stream(1, 0, 1, 12, 50);
        x.plan();
        check.due("of a box that was told ahead", x.leaves(0, 0, 0), 3);
        check.due("of a box that is new", x.leaves(1, 0, 0), 0);
    }

    private void clockShows() {
        check.promise("'begin to take a WIRE at its START, and each PERIOD behind, and what its BOX is off'");
        DoorNet x = Nets.chain(3, 0, 0, 1);
        x.drift(3);
        x.stream(0, 2, 1, 4, 50);
        x.plan();
        x.clock(0, -3);
        x.clock(1, 3);
        x.clock(2, 2);
        check.due("ahead of tick 0", x.leaves(0, 0, 0), -3);
        check.due("the next letter", x.leaves(0, 1, 0), 1);
        check.due("the last one", x.leaves(0, 99, 0), 393);
        check.due("the second wire", x.leaves(0, 0, 1), 1 + 6 + 3);
        check.due("the second wire, the last one", x.leaves(0, 99, 1), 396 + 10);
        check.due("its end: the last box's clock counts nothing", x.leaves(0, 0, 9), 11);
    }

    private void sixtyLetters() {
        check.promise("'PLAIN letters, 60 at most, numbered from 0 on'");
        DoorNet x = Nets.oneWire(0, 1);
        for (int l = 0; l < 60; l++) {
            check.due("send", x.send(l, 0, 1, 1), l);
        }
        check.due("a 61st", x.send(60, 0, 1, 1), -1);
        check.due("count(6)", x.count(6), 60);
        check.due("the first", x.plain(0, 20), 0);
        check.due("the last", x.plain(59, 20), 59);
        check.due("none behind it", x.plain(60, 20), -1);
    }

    private void ticksOfLetters() {
        check.promise("'at a TICK 0 .. 999'");
        DoorNet x = Nets.oneWire(0, 1);
        for (int tick : new int[] {-1, 1000, Integer.MIN_VALUE, Integer.MAX_VALUE}) {
            check.due("send at " + tick, x.send(tick, 0, 1, 1), -1);
        }
        check.due("send at 999", x.send(999, 0, 1, 1), 0);
        check.due("send at 0", x.send(0, 0, 1, 1), 1);
        check.due("begins at 999", x.plain(0, 20), 999);
        check.due("begins at 0", x.plain(1, 20), 0);
    }

    private void byTheFirstWay() {
        check.promise("'they go by the first WAY'");
        // Wire 0 is the first way, and full: nobody goes by wire 1.
        DoorNet x = Nets.boxes(2, 0);
        x.wire(0, 1, 0, 1);
        x.wire(0, 1, 1, 1);
        x.stream(0, 1, 2, 2, 2);
        x.plan();
        x.send(0, 0, 1, 1);
        check.due("its wire", x.plain(0, 10), 0);
        check.due("it waits for ever", x.plain(0, 20), -3);
        check.due("count(7)", x.count(7), 0);
        check.due("most(1)", x.most(1), 0);
        // The first way for a size: 2 * 3 against 2 + 5, 1 * 3 against 1 + 5, 8 * 3 against 8 + 5.
        DoorNet y = Nets.boxes(2, 0);
        y.wire(0, 1, 0, 3);
        y.wire(0, 1, 5, 1);
        int[] due = {0, 0, 1, 1, 1, 1, 1, 1};
        for (int size = 1; size <= 8; size++) {
            y.send(0, 0, 1, size);
            check.due("wire for size " + size, y.plain(size - 1, 10), due[size - 1]);
        }
    }

    private void ownTickInTheFirstBox() {
        check.promise("'at its own TICK in the first BOX'");
        DoorNet x = Nets.chain(2, 5, 0, 1);
        x.drift(3);
        x.send(4, 0, 1, 1);
        check.due("no hold in the first box", x.plain(0, 30), 4);
        check.due("it begins", x.plain(0, 20), 4);
        check.due("and none in the last", x.plain(0, 1), 5);
    }

    private void holdBehindAndNothingForDrift() {
        check.promise("'HOLD behind it was wholly there; .. nothing for DRIFT'");
        for (int hold : new int[] {0, 5}) {
            for (int length : new int[] {0, 9}) {
                DoorNet x = Nets.chain(5, hold, length, 3);
                x.drift(3);
                x.clock(1, 3);
                x.clock(2, -3);
                x.send(10, 0, 4, 8);
                for (int k = 0; k < 4; k++) {
                    int due = 10 + k * (24 + length + hold);
                    check.due("hold " + hold + ", wire " + k, x.plain(0, 30 + k), due);
                    check.due("hold " + hold + ", wire " + k, x.plain(0, 20 + k), due);
                }
                check.due("its end", x.plain(0, 1), 10 + 4 * (24 + length) + 3 * hold);
            }
        }
    }

    private void couldGoOnFirst() {
        check.promise("'the one that could go on first begins first'");
        DoorNet x = Nets.boxes(4, 0);
        x.wire(0, 2, 0, 1);
        x.wire(1, 2, 2, 1);
        x.wire(2, 3, 0, 1);
        x.send(0, 1, 3, 1);
        x.send(0, 0, 3, 1);
        x.send(1, 2, 3, 4);
        x.send(2, 2, 3, 1);
        // They could go on at 3, 1, 1 and 2.
        check.due("the second", x.plain(1, 21), 1);
        check.due("the third", x.plain(2, 20), 2);
        check.due("the fourth", x.plain(3, 20), 6);
        check.due("the first", x.plain(0, 21), 7);
        check.due("it waited from", x.plain(0, 31), 3);
    }

    private void theLesserNumber() {
        check.promise("'of these the lesser number'");
        DoorNet x = Nets.oneWire(0, 1);
        int[] sizes = {8, 1, 5, 1, 2};
        int due = 20;
        for (int size : sizes) {
            x.send(20, 0, 1, size);
        }
        for (int l = 0; l < sizes.length; l++) {
            check.due("letter " + l, x.plain(l, 20), due);
            due += sizes[l];
        }
        // One that comes over a wire and one of the box itself, both ways round.
        DoorNet y = Nets.chain(3, 0, 0, 1);
        y.send(0, 0, 2, 1);
        y.send(1, 1, 2, 1);
        check.due("the one that comes, of number 0", y.plain(0, 21), 1);
        check.due("the one that is there", y.plain(1, 20), 2);
        DoorNet z = Nets.chain(3, 0, 0, 1);
        z.send(1, 1, 2, 1);
        z.send(0, 0, 2, 1);
        check.due("the one that is there, of number 0", z.plain(0, 20), 1);
        check.due("the one that comes", z.plain(1, 21), 2);
    }

    private void noOtherAhead() {
        check.promise("'no other one begins ahead of it'");
        // free: 3 .. 4 and 8 .. 11
        DoorNet x = Nets.row(3, 2, 3);
        x.strike(1);
        x.send(3, 0, 1, 4);
        x.send(3, 0, 1, 1);
        x.send(15, 0, 1, 2);
        check.due("the one of four ticks", x.plain(0, 20), 8);
        check.due("the one of one tick", x.plain(1, 20), 15);
        check.due("the one of two ticks", x.plain(2, 20), 20);
        x.send(0, 0, 1, 8);
        for (int l = 0; l < 4; l++) {
            check.due("behind one that never begins", x.plain(l, 20), -3);
        }
        check.due("most(0)", x.most(0), 4);
        check.due("count(7)", x.count(7), 0);
    }

    private void eachWireByItself() {
        check.promise("'of those that wait for one WIRE'");
        // From box 0 one goes to 1 and waits for ever, and one to 2.
        DoorNet x = Nets.boxes(3, 0);
        x.wire(0, 1, 0, 1);
        x.wire(0, 2, 0, 1);
        x.stream(0, 1, 2, 2, 50);
        x.plan();
        x.send(0, 0, 1, 1);
        x.send(0, 0, 2, 1);
        check.due("the one waits for ever", x.plain(0, 20), -3);
        check.due("the other goes", x.plain(1, 20), 0);
        check.due("most(0)", x.most(0), 1);
        check.due("most(1)", x.most(1), 0);
    }

    private void noPlainLetterThere() {
        check.promise("'the first TICK from then on at which the WIRE has no plain letter'");
        for (int tick = 0; tick <= 8; tick++) {
            DoorNet x = Nets.oneWire(9, 2);
            x.send(0, 0, 1, 3);
            x.send(tick, 0, 1, 1);
            // The wire has the first one for ticks 0 .. 5; it is at its end at 15.
            check.due("sent at " + tick, x.plain(1, 20), Math.max(tick, 6));
        }
    }

    private void doorsByTheClock() {
        check.promise("'of that BOX's clock: TICK less what it is off'");
        // Shown at tick 0 with a clock that is off by 3: -3, by rests 9.
        int[][] offSizeBegin = {{3, 1, 0}, {3, 3, 0}, {3, 4, 9}, {-3, 1, 3}, {-3, 6, 3}, {-3, 7, -3}, {0, 1, 6},
            {1, 1, 0}, {1, 2, 7}, {2, 2, 0}, {2, 3, 8}};
        for (int[] it : offSizeBegin) {
            DoorNet x = halfTaken();
            x.clock(0, it[0]);
            x.clock(1, -it[0]);
            x.send(0, 0, 1, it[1]);
            check.due("off by " + it[0] + ", size " + it[1], x.plain(0, 20), it[2]);
        }
        DoorNet y = halfTaken();
        y.send(999, 0, 1, 1);
        // 999 is 3 by rests
        check.due("tick 999", y.plain(0, 20), 1002);
        y.clock(0, -3);
        check.due("tick 999, early", y.plain(0, 20), 999);
        y.clock(0, 3);
        check.due("tick 999, late", y.plain(0, 20), 1005);
        check.due("doors are told by the clock itself", y.door(0, 0), 0);
        check.due("and waits too", y.waits(0, 3, 1), 3);
    }
}
