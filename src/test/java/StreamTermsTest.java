/** The edges that the document names of streams, places, plans and tries. */
public final class StreamTermsTest {
    private final Check check = new Check();

    public static void main(String[] args) {
        StreamTermsTest test = new StreamTermsTest();
        test.eightStreams();
        test.fromABoxToAnother();
        test.periods();
        test.periodWhenItIsTold();
        test.latest();
        test.choicesInTime();
        test.firstThree();
        test.ticks();
        test.starts();
        test.meetByRests();
        test.longLettersOverTheEnd();
        test.meetFarBehindTheCycle();
        test.meetOnAnyWire();
        test.meetByItself();
        test.besideThoseThatStay();
        test.firstChoiceThenTick();
        test.theLeastStreamFirst();
        test.goingBack();
        test.eachIsATry();
        test.full();
        test.fullOfAllSets();
        test.check.end();
    }

    private void eightStreams() {
        check.promise("'STREAMS, 8 at most, numbered from 0 on'");
        DoorNet x = Nets.oneWire(0, 1);
        for (int s = 0; s < 8; s++) {
            check.due("stream", x.stream(0, 1, 1, 12, 50), s);
        }
        check.due("a ninth", x.stream(0, 1, 1, 12, 50), -1);
        check.due("plan() of eight", x.plan(), 1);
        for (int s = 0; s < 8; s++) {
            check.due("place(" + s + ", 1)", x.place(s, 1), s);
            check.due("door(0, " + s + ")", x.door(0, s), s);
        }
        check.due("tries()", x.tries(), 36);
        x.strike(7);
        check.due("a ninth where one is struck", x.stream(0, 1, 1, 12, 50), -1);
    }

    private void fromABoxToAnother() {
        check.promise("'from a BOX to another one'");
        DoorNet x = Nets.boxes(6, 0);
        for (int b = 0; b < 6; b++) {
            x.wire(b, (b + 1) % 6, 0, 1);
            x.wire((b + 1) % 6, b, 0, 1);
        }
        for (int b = 0; b < 6; b++) {
            check.due("from a box to itself", x.stream(b, b, 1, 12, 200), -1);
        }
        for (int b : new int[] {-1, 6, Integer.MIN_VALUE, Integer.MAX_VALUE}) {
            check.due("from no box", x.stream(b, 0, 1, 12, 200), -1);
            check.due("to no box", x.stream(0, b, 1, 12, 200), -1);
        }
        check.due("from 5 to 0", x.stream(5, 0, 1, 12, 200), 0);
        check.due("from 0 to 5", x.stream(0, 5, 1, 12, 200), 1);
    }

    private void periods() {
        check.promise("'a PERIOD (a divisor of the CYCLE when it is told, 2 at least)'");
        for (int h : new int[] {12, 24, 48, 60, 120}) {
            for (int period = -3; period <= h + 3; period++) {
                DoorNet x = Nets.oneWire(0, 1);
                x.cycle(h);
                boolean is = period >= 2 && h / period * period == h;
                check.due("cycle " + h + ", period " + period, x.stream(0, 1, 1, period, 50), is ? 0 : -1);
            }
            DoorNet y = Nets.oneWire(0, 1);
            y.cycle(h);
            for (int period : new int[] {-h, 2 * h, 10 * h, Integer.MIN_VALUE, Integer.MAX_VALUE}) {
                check.due("cycle " + h + ", period " + period, y.stream(0, 1, 1, period, 50), -1);
            }
        }
    }

    private void periodWhenItIsTold() {
        check.promise("'a divisor of the CYCLE when it is told': of the one that it is then");
        DoorNet x = Nets.oneWire(0, 1);
        check.due("period 60 of cycle 12", x.stream(0, 1, 1, 60, 50), -1);
        x.cycle(120);
        x.cycle(60);
        check.due("period 120 of cycle 60", x.stream(0, 1, 1, 120, 50), -1);
        check.due("period 60 of cycle 60", x.stream(0, 1, 1, 60, 50), 0);
        x.cycle(120);
        check.due("the cycle stays beside a stream", x.stream(0, 1, 1, 120, 50), -1);
    }

    private void latest() {
        check.promise("'a LATEST (1 .. 200)'");
        DoorNet x = Nets.oneWire(0, 1);
        for (int late : new int[] {0, -1, 201, Integer.MIN_VALUE, Integer.MAX_VALUE}) {
            check.due("latest " + late, x.stream(0, 1, 1, 12, late), -1);
            check.due("latest " + late + " without a way", x.stream(1, 0, 1, 12, late), -1);
        }
        check.due("latest 1", x.stream(0, 1, 1, 12, 1), 0);
        check.due("latest 200", x.stream(0, 1, 1, 12, 200), 1);
        check.due("latest 1 for size 2", x.stream(0, 1, 2, 12, 1), -2);
        check.due("latest 200 without a way", x.stream(1, 0, 1, 12, 200), -2);
    }

    private void choicesInTime() {
        check.promise("'WAYS whose LATENESS is LATEST at most'");
        // Lateness 4 and 6: one choice from 4 on, two from 6 on.
        for (int late = 3; late <= 7; late++) {
            DoorNet x = Nets.boxes(2, 0);
            x.wire(0, 1, 0, 1);
            x.wire(0, 1, 2, 1);
            int told = x.stream(0, 1, 4, 4, late);
            check.due("latest " + late, told, late < 4 ? -2 : 0);
            if (told == 0) {
                x.stream(0, 1, 4, 4, late);
                check.due("latest " + late + ": plan()", x.plan(), late < 6 ? 0 : 1);
                check.due("latest " + late + ": choice", x.place(1, 0), late < 6 ? -1 : 1);
            }
        }
    }

    private void firstThree() {
        check.promise("'Its CHOICES are the first three WAYS'");
        DoorNet x = Nets.wires(4, 0, 1);
        for (int s = 0; s < 3; s++) {
            x.stream(0, 1, 2, 2, 200);
        }
        check.due("plan() of three on four wires", x.plan(), 1);
        for (int s = 0; s < 3; s++) {
            check.due("choice", x.place(s, 0), s);
            check.due("wire", x.place(s, 10), s);
        }
        x.stream(0, 1, 2, 2, 200);
        check.due("a fourth has no fourth choice", x.add(), 0);
        check.due("tries()", x.tries(), 6);
        check.due("nobody has wire 3", x.worst(3, 8), 0);
    }

    private void ticks() {
        check.promise("'Its PLACE is a CHOICE and a TICK, 0 .. PERIOD - 1'");
        DoorNet x = Nets.oneWire(0, 1);
        x.stream(0, 1, 5, 6, 50);
        x.stream(0, 1, 1, 6, 50);
        check.due("plan()", x.plan(), 1);
        check.due("the least tick", x.place(0, 1), 0);
        check.due("the greatest tick", x.place(1, 1), 5);
        check.due("tries()", x.tries(), 1 + 6);
        x.strike(1);
        // Stream 1 can have tick 5 alone, and so 5 and 11: no tick of 0 .. 11 is left for the next.
        x.stream(0, 1, 1, 12, 50);
        x.stream(0, 1, 1, 12, 50);
        check.due("add() of three on two ticks", x.add(), 0);
        check.due("tries()", x.tries(), 6 + 12);
        DoorNet y = Nets.oneWire(0, 1);
        y.cycle(120);
        for (int s = 0; s < 7; s++) {
            y.stream(0, 1, s < 6 ? 3 : 1, s < 6 ? 20 : 120, 50);
        }
        check.due("plan()", y.plan(), 1);
        check.due("behind 18 of 20", y.place(6, 1), 18);
    }

    private void starts() {
        check.promise("'START of the k-th WIRE: TICK and all that is told ahead of it, together'");
        DoorNet x = Nets.chain(5, 5, 9, 3);
        x.cycle(120);
        x.drift(3);
        x.stream(0, 1, 8, 60, 200);
        x.stream(0, 4, 8, 60, 200);
        check.due("plan()", x.plan(), 1);
        check.due("tick", x.place(1, 1), 24);
        for (int k = 0; k < 4; k++) {
            check.due("start " + k, x.place(1, 20 + k), 24 + k * (24 + 9 + 5 + 6));
        }
    }

    private void meetByRests() {
        check.promise("'PLACES MEET if .. by rests by the CYCLE': a letter over the cycle's end");
        DoorNet x = Nets.chain(3, 0, 9, 1);
        // The second wire is taken at 11 and 12, so at 11 and 0.
        x.stream(0, 2, 2, 12, 50);
        x.stream(1, 2, 1, 12, 50);
        check.due("plan()", x.plan(), 1);
        check.due("start", x.place(0, 21), 11);
        check.due("tick 0 meets the letter's end", x.place(1, 1), 1);
        check.due("tries()", x.tries(), 3);
        check.due("door(1, 11)", x.door(1, 11), 0);
        check.due("door(1, 0)", x.door(1, 0), 0);
        check.due("door(1, 1)", x.door(1, 1), 1);
        check.due("door(1, 10)", x.door(1, 10), -1);
        // Ticks 1 .. 10 are left, just enough for 8 and 2.
        DoorNet y = Nets.chain(3, 0, 9, 1);
        y.stream(0, 2, 2, 12, 50);
        y.stream(1, 2, 8, 12, 50);
        y.stream(1, 2, 2, 12, 50);
        check.due("plan()", y.plan(), 1);
        check.due("eight and two behind each other", y.place(2, 1), 9);
        check.due("eight", y.place(1, 1), 1);
    }

    private void longLettersOverTheEnd() {
        check.promise("'by rests by the CYCLE': a letter of more than half a cycle over its end");
        // Stream 0 has 1 .. 4 of the second wire; stream 1 has 5 .. 12 there, so 0 too.
        DoorNet x = Nets.chain(3, 0, 9, 1);
        x.stream(0, 2, 4, 12, 50);
        x.stream(1, 2, 8, 12, 50);
        fullBehind(x, 13, 5);
        // Stream 0 has 1 .. 8 of the second wire; stream 1 has 9 .. 24 there, so 0 too.
        DoorNet y = Nets.boxes(3, 4);
        y.wire(0, 1, 9, 3);
        y.wire(1, 2, 0, 2);
        y.cycle(24);
        y.stream(0, 2, 4, 24, 50);
        y.stream(1, 2, 8, 24, 50);
        fullBehind(y, 25, 9);
    }

    /** Streams 0 and 1 fill wire 1, the second of them over the cycle's end. */
    private void fullBehind(DoorNet x, int start, int tick) {
        check.due("plan()", x.plan(), 1);
        check.due("start", x.place(0, 21), start);
        check.due("tick", x.place(1, 1), tick);
        check.due("tries()", x.tries(), 1 + tick + 1);
        check.due("door(1, 0)", x.door(1, 0), 1);
        check.due("waits(1, 0, 1)", x.waits(1, 0, 1), -1);
        x.send(0, 1, 2, 1);
        check.due("plain(0, 20)", x.plain(0, 20), -3);
        x.stream(1, 2, 1, 12, 50);
        check.due("add() of one more", x.add(), 0);
        x.strike(1);
        check.due("waits(1, 0, 1) without it", x.waits(1, 0, 1), x.count(2) == 12 ? 0 : 9);
        check.due("waits(1, tick, 8) without it", x.waits(1, tick, 8), 0);
    }

    private void meetFarBehindTheCycle() {
        check.promise("'by rests by the CYCLE': a start that is far behind the cycle's end");
        DoorNet x = Nets.chain(5, 5, 9, 3);
        x.cycle(120);
        x.drift(3);
        x.stream(0, 4, 8, 60, 200);
        x.stream(3, 4, 4, 60, 200);
        x.stream(3, 4, 4, 60, 200);
        check.due("plan()", x.plan(), 1);
        // Start 132: letters from 12 and from 72 on, of 24 ticks each.
        check.due("start", x.place(0, 23), 132);
        check.due("ticks 0 .. 11 are free", x.place(1, 1), 0);
        check.due("then from 36 on", x.place(2, 1), 36);
        for (int t = 0; t < 120; t++) {
            int rest = t % 60;
            int due = rest < 12 ? 1 : rest < 36 ? 0 : rest < 48 ? 2 : -1;
            check.due("door(3, " + t + ")", x.door(3, t), due);
        }
    }

    private void meetOnAnyWire() {
        check.promise("'if there is a WIRE that .. two letters of theirs .. would take in one TICK'");
        // They have no first wire in common, and meet on the last alone.
        DoorNet x = Nets.boxes(4, 0);
        x.wire(0, 2, 0, 1);
        x.wire(1, 2, 1, 1);
        x.wire(2, 3, 0, 1);
        x.stream(0, 3, 2, 12, 50);
        x.stream(1, 3, 2, 12, 50);
        check.due("plan()", x.plan(), 1);
        // 2 and 3 are taken; from tick 0 it would be 3 and 4, from tick 1 it is 4 and 5
        check.due("tick", x.place(1, 1), 1);
        check.due("start", x.place(1, 22), -1);
        check.due("start", x.place(1, 21), 4);
        // Held 2 ticks and 2 for drift between: with 0 .. 7 taken there it can begin at 3, to go on at 8.
        DoorNet z = Nets.chain(3, 2, 0, 1);
        z.drift(1);
        z.stream(1, 2, 8, 12, 50);
        z.stream(0, 2, 1, 12, 50);
        check.due("plan()", z.plan(), 1);
        check.due("tick", z.place(1, 1), 3);
        check.due("start", z.place(1, 21), 8);
        check.due("tries()", z.tries(), 1 + 4);
        // Wires that run side by side are two.
        DoorNet y = Nets.wires(2, 0, 1);
        y.stream(0, 1, 8, 12, 50);
        y.stream(0, 1, 8, 12, 50);
        check.due("plan()", y.plan(), 1);
        check.due("the other wire, the same tick", y.place(1, 1), 0);
    }

    private void meetByItself() {
        check.promise("'or of one of them': a stream that meets itself");
        int[][] sizePeriodFits = {{2, 6, 1}, {2, 4, 0}, {4, 12, 1}, {5, 12, 0}, {8, 12, 0}, {1, 3, 1}, {1, 2, 0}};
        for (int[] it : sizePeriodFits) {
            DoorNet x = Nets.oneWire(0, 3);
            x.stream(0, 1, it[0], it[1], 50);
            check.due("size " + it[0] + ", period " + it[1], x.plan(), it[2]);
            check.due("tries()", x.tries(), it[2] == 1 ? 1 : it[1]);
            check.due("count(5)", x.count(5), it[2]);
        }
        DoorNet y = Nets.boxes(3, 0);
        y.wire(0, 1, 0, 1);
        y.wire(1, 2, 0, 3);
        y.stream(0, 2, 2, 4, 50);
        check.due("on the second wire alone", y.plan(), 0);
        check.due("add()", y.add(), 0);
        check.due("stir()", y.stir(), -1);
        DoorNet z = Nets.boxes(2, 0);
        z.wire(0, 1, 0, 3);
        z.wire(0, 1, 9, 1);
        z.stream(0, 1, 2, 4, 50);
        check.due("but not on the second choice", z.plan(), 1);
        check.due("choice", z.place(0, 0), 1);
        check.due("tries()", z.tries(), 5);
    }

    private void besideThoseThatStay() {
        check.promise("'A PLAN of some STREAMS beside the PLACES of others that stay'");
        DoorNet x = Nets.row(4, 4, 4);
        x.strike(1);
        check.due("add()", x.add(), 1);
        check.due("back between the others", x.place(1, 1), 4);
        check.due("tries()", x.tries(), 5);
        x.strike(1);
        x.stream(0, 1, 5, 12, 50);
        x.strike(2);
        // 4 .. 11 are free for 4 (stream 1), 4 (stream 2) and 5 (stream 3)
        check.due("add() of too many", x.add(), 0);
        check.due("stream 0 stays", x.place(0, 1), 0);
        check.due("stream 1 stays without", x.place(1, 1), -1);
        check.due("count(5)", x.count(5), 1);
    }

    private void firstChoiceThenTick() {
        check.promise("'the first CHOICE that it can, then the least TICK'");
        DoorNet x = Nets.boxes(2, 0);
        x.wire(0, 1, 0, 1);
        x.wire(0, 1, 5, 1);
        x.stream(0, 1, 5, 6, 5);
        x.stream(0, 1, 1, 6, 50);
        x.stream(0, 1, 1, 6, 50);
        check.due("plan()", x.plan(), 1);
        check.due("first choice", x.place(1, 0), 0);
        check.due("at its last tick", x.place(1, 1), 5);
        check.due("then second choice", x.place(2, 0), 1);
        check.due("at its first tick", x.place(2, 1), 0);
        check.due("tries()", x.tries(), 1 + 6 + 7);
    }

    private void theLeastStreamFirst() {
        check.promise("'that in which the least STREAM of them has the first ..; then the next one'");
        // Stream 1 can have wire 0 alone: so stream 0 has wire 1 only if it must.
        DoorNet x = Nets.boxes(2, 0);
        x.wire(0, 1, 0, 1);
        x.wire(0, 1, 1, 1);
        x.stream(0, 1, 2, 4, 50);
        x.stream(0, 1, 2, 4, 2);
        check.due("plan() where both fit", x.plan(), 1);
        check.due("stream 0: choice", x.place(0, 0), 0);
        check.due("stream 1: tick", x.place(1, 1), 2);
        DoorNet y = Nets.boxes(2, 0);
        y.wire(0, 1, 0, 1);
        y.wire(0, 1, 1, 1);
        y.stream(0, 1, 2, 4, 50);
        y.stream(0, 1, 4, 4, 4);
        check.due("plan() where one must go", y.plan(), 1);
        check.due("stream 0: choice", y.place(0, 0), 1);
        check.due("stream 0: tick", y.place(0, 1), 0);
        check.due("stream 1: tick", y.place(1, 1), 0);
        check.due("tries()", y.tries(), 4 + 4 * 4 + 1 + 1);
    }

    private void goingBack() {
        check.promise("'going back where nothing is left'");
        // Two of 3 and one of 3 each 6 go on one wire only as 0, 6 and 3.
        DoorNet x = Nets.oneWire(0, 1);
        x.stream(0, 1, 3, 12, 50);
        x.stream(0, 1, 3, 12, 50);
        x.stream(0, 1, 3, 6, 50);
        check.due("plan()", x.plan(), 1);
        int[] due = {0, 6, 3};
        for (int s = 0; s < 3; s++) {
            check.due("place(" + s + ", 1)", x.place(s, 1), due[s]);
        }
        check.due("tries()", x.tries(), 1 + 7 + 3 * 6 + 4);
        // What was given up is free again.
        x.strike(1);
        check.due("door(0, 6)", x.door(0, 6), -1);
        check.due("door(0, 3)", x.door(0, 3), 2);
        check.due("waits(0, 6, 3)", x.waits(0, 6, 3), 0);
    }

    private void eachIsATry() {
        check.promise("'Each CHOICE and TICK that is looked at is a TRY'");
        DoorNet x = Nets.wires(3, 0, 1);
        x.stream(0, 1, 2, 2, 50);
        check.due("add()", x.add(), 1);
        check.due("tries()", x.tries(), 1);
        x.stream(0, 1, 2, 2, 50);
        check.due("add()", x.add(), 1);
        check.due("tries()", x.tries(), 2 + 1);
        x.stream(0, 1, 2, 2, 50);
        check.due("add()", x.add(), 1);
        check.due("tries()", x.tries(), 4 + 1);
        x.stream(0, 1, 2, 2, 50);
        check.due("add()", x.add(), 0);
        check.due("tries()", x.tries(), 6);
        // Two ticks on each of three wires; what is given to one stream has both of a wire's ticks.
        check.due("plan()", x.plan(), 0);
        check.due("tries()", x.tries(), 6 + 6 * 6 + 6 * 4 * 6 + 6 * 4 * 2 * 6);
    }

    private void full() {
        check.promise("'as the 40,001st would be made, that is FULL'");
        DoorNet x = islands(60);
        x.stream(0, 1, 1, 10, 50);
        x.stream(1, 0, 1, 3, 50);
        x.stream(2, 3, 1, 12, 50);
        x.stream(2, 3, 5, 12, 50);
        // 10 + 10 * 3 + 10 * 3 * 36 + 10 * 3 * 36 * 36, and the last meets itself
        check.due("plan() of 40,000", x.plan(), 0);
        check.due("tries()", x.tries(), 40000);
        check.due("add() of 40,000", x.add(), 0);
        check.due("tries()", x.tries(), 40000);
        DoorNet y = islands(60);
        y.stream(0, 1, 2, 60, 50);
        y.plan();
        y.stream(0, 1, 1, 5, 50);
        y.stream(1, 0, 1, 12, 50);
        y.stream(2, 3, 1, 10, 50);
        y.stream(2, 3, 5, 12, 50);
        // 5 + 3 * 12 + 3 * 12 * 30 + 3 * 12 * 30 * 36
        check.due("add() of 40,001", y.add(), -2);
        check.due("tries()", y.tries(), 40000);
        check.due("place(0, 1) stays", y.place(0, 1), 0);
        check.due("place(1, 1) stays", y.place(1, 1), -1);
        check.due("plan() of more", y.plan(), -2);
        check.due("tries()", y.tries(), 40000);
        check.due("place(0, 1) stays", y.place(0, 1), 0);
    }

    private void fullOfAllSets() {
        check.promise("'FULL (TRIES of all sets together)'");
        // Without a set 4 + 4 * 48 + 4 * 48 * 15 = 3076; with {0} 12 + 12 * 3076.
        DoorNet x = Nets.boxes(4, 0);
        x.wire(0, 1, 0, 1);
        x.wire(1, 0, 0, 1);
        x.wire(2, 3, 0, 1);
        x.wire(2, 3, 0, 1);
        x.wire(3, 2, 0, 3);
        x.cycle(120);
        x.stream(0, 1, 1, 12, 50);
        x.plan();
        x.stream(1, 0, 1, 4, 50);
        x.stream(2, 3, 1, 24, 50);
        x.stream(3, 2, 8, 15, 50);
        check.due("add()", x.add(), 0);
        check.due("tries()", x.tries(), 3076);
        check.due("stir() of 40,000", x.stir(), -1);
        check.due("tries()", x.tries(), 40000);
        // Without a set 6 + 6 * 30 + 6 * 30 * 36 = 6666; with {0} 5 + 5 * 6666.
        DoorNet y = islands(60);
        y.stream(0, 1, 1, 5, 50);
        y.plan();
        y.stream(1, 0, 1, 6, 50);
        y.stream(3, 2, 1, 30, 50);
        y.stream(2, 3, 5, 12, 50);
        check.due("add()", y.add(), 0);
        check.due("tries()", y.tries(), 6666);
        check.due("stir() of 40,001", y.stir(), -2);
        check.due("tries()", y.tries(), 40000);
        check.due("place(0, 1) stays", y.place(0, 1), 0);
        check.due("door(0, 0) stays", y.door(0, 0), 0);
        check.due("door(1, 0) stays", y.door(1, 0), -1);
        check.due("count(5)", y.count(5), 1);
    }

    /** A wire from 0 to 1, one from 1 to 0, three slow ones from 2 to 3, one from 3 to 2. */
    private static DoorNet islands(int cycle) {
        DoorNet x = Nets.boxes(4, 0);
        x.wire(0, 1, 0, 1);
        x.wire(1, 0, 0, 1);
        for (int w = 0; w < 3; w++) {
            x.wire(2, 3, 0, 3);
        }
        x.wire(3, 2, 0, 1);
        x.cycle(cycle);
        return x;
    }
}
