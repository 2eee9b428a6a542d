/** The edges that the document names ahead of its promises: the limit of calls, the net and its ways. */
public final class NetTermsTest {
    private final Check check = new Check();

    public static void main(String[] args) {
        NetTermsTest test = new NetTermsTest();
        test.calls();
        test.holds();
        test.lengths();
        test.speeds();
        test.sizes();
        test.numbers();
        test.cycleAtFirst();
        test.driftAtFirst();
        test.time();
        test.goesOn();
        test.oneToFourWires();
        test.eachFromTheBoxAhead();
        test.noBoxTwice();
        test.latenessOfBoxesBetween();
        test.greatestLateness();
        test.orderByLateness();
        test.orderByWires();
        test.check.end();
    }

    private void calls() {
        check.promise("'An object is used for at most 512 calls after it has been made'");
        DoorNet x = Nets.row(6);
        int made = 5;
        for (int l = 0; l < 60; l++) {
            check.due("send", x.send(0, 0, 1, 1), l);
            made++;
        }
        while (made < 511) {
            int l = made % 60;
            check.due("call " + (made + 1), x.plain(l, 20), 6 + l % 6 + l / 6 * 12);
            made++;
        }
        check.due("call 512", x.count(7), 60);
        // What later calls answer is free, but none may throw.
        for (int later = 0; later < 2000; later++) {
            x.plain(later, later);
            x.stream(0, 1, 1, 12, later);
            x.stir();
        }
    }

    private void holds() {
        check.promise("'BOXES .. each with a HOLD, 0 .. 5'");
        DoorNet x = new DoorNet();
        check.due("box(-1)", x.box(-1), -1);
        check.due("box(6)", x.box(6), -1);
        check.due("box(0)", x.box(0), 0);
        check.due("box(5)", x.box(5), 1);
        check.due("box(0)", x.box(0), 2);
        x.wire(0, 1, 0, 1);
        x.wire(1, 2, 0, 1);
        x.wire(2, 0, 0, 1);
        check.due("lateness over a box that holds 5", x.way(0, 2, 1, 0, 4), 7);
        check.due("lateness over a box that holds 0", x.way(1, 0, 1, 0, 4), 2);
    }

    private void lengths() {
        check.promise("'WIRES .. a LENGTH 0 .. 9'");
        DoorNet x = Nets.boxes(2, 0);
        check.due("length -1", x.wire(0, 1, -1, 1), -1);
        check.due("length 10", x.wire(0, 1, 10, 1), -1);
        check.due("length 0", x.wire(0, 1, 0, 1), 0);
        check.due("length 9", x.wire(1, 0, 9, 1), 1);
        check.due("lateness of length 0", x.way(0, 1, 1, 0, 4), 1);
        check.due("lateness of length 9", x.way(1, 0, 1, 0, 4), 10);
    }

    private void speeds() {
        check.promise("'WIRES .. a SPEED 1 .. 3'");
        DoorNet x = Nets.boxes(2, 0);
        check.due("speed 0", x.wire(0, 1, 0, 0), -1);
        check.due("speed 4", x.wire(0, 1, 0, 4), -1);
        check.due("speed -1", x.wire(0, 1, 0, -1), -1);
        check.due("speed 1", x.wire(0, 1, 0, 1), 0);
        check.due("speed 3", x.wire(1, 0, 0, 3), 1);
        check.due("lateness of speed 1", x.way(0, 1, 8, 0, 4), 8);
        check.due("lateness of speed 3", x.way(1, 0, 8, 0, 4), 24);
    }

    private void sizes() {
        check.promise("'A letter of SIZE z (1 .. 8)'");
        for (int size : new int[] {-1, 0, 9, Integer.MIN_VALUE, Integer.MAX_VALUE}) {
            DoorNet x = Nets.oneWire(0, 1);
            check.due("way of size " + size, x.way(0, 1, size, 0, 4), -1);
            check.due("stream of size " + size, x.stream(0, 1, size, 12, 200), -1);
            check.due("waits of size " + size, x.waits(0, 0, size), -2);
            check.due("worst of size " + size, x.worst(0, size), -2);
            check.due("send of size " + size, x.send(0, 0, 1, size), -1);
        }
        for (int size : new int[] {1, 8}) {
            DoorNet x = Nets.oneWire(0, 1);
            check.due("way of size " + size, x.way(0, 1, size, 0, 4), size);
            check.due("stream of size " + size, x.stream(0, 1, size, 12, 200), 0);
            check.due("waits of size " + size, x.waits(0, 0, size), 0);
            check.due("worst of size " + size, x.worst(0, size), 0);
            check.due("send of size " + size, x.send(0, 0, 1, size), 0);
            check.due("its end", x.plain(0, 1), size);
        }
    }

    private void numbers() {
        check.promise("'All are numbered from 0 on, as they come'");
        DoorNet x = new DoorNet();
        for (int b = 0; b < 6; b++) {
            check.due("box", x.box(1), b);
            check.due("a refused box takes no number", x.box(9), -1);
        }
        for (int w = 0; w < 12; w++) {
            check.due("a refused wire takes no number", x.wire(0, 0, 0, 1), -1);
            check.due("wire", x.wire(w % 5, 5, w % 10, 1), w);
        }
        for (int s = 0; s < 8; s++) {
            check.due("a stream without a choice takes no number", x.stream(5, 0, 1, 12, 50), -2);
            check.due("stream", x.stream(0, 5, 1, 12, 50), s);
            check.due("a refused stream takes no number", x.stream(0, 5, 9, 12, 50), -1);
        }
        for (int l = 0; l < 60; l++) {
            check.due("a letter without a way takes no number", x.send(0, 5, 0, 1), -2);
            check.due("send", x.send(0, 0, 5, 1), l);
            check.due("a refused letter takes no number", x.send(0, 0, 5, 9), -1);
        }
        check.due("wire 11 is the twelfth", x.way(1, 5, 1, 2, 0), 6);
    }

    private void cycleAtFirst() {
        check.promise("'The CYCLE is 12, 24, 48, 60 or 120 TICKS (12 at first)'");
        DoorNet x = Nets.oneWire(0, 1);
        check.due("count(2)", x.count(2), 12);
        check.due("period 24 at first", x.stream(0, 1, 1, 24, 50), -1);
        check.due("period 12 at first", x.stream(0, 1, 1, 12, 50), 0);
        for (int h = -130; h <= 260; h++) {
            DoorNet y = new DoorNet();
            boolean is = h == 12 || h == 24 || h == 48 || h == 60 || h == 120;
            check.due("cycle(" + h + ")", y.cycle(h), is);
            check.due("count(2)", y.count(2), is ? h : 12);
        }
    }

    private void driftAtFirst() {
        check.promise("'the DRIFT 0 .. 3 (0 at first)'");
        DoorNet x = Nets.chain(3, 0, 0, 1);
        check.due("count(3)", x.count(3), 0);
        check.due("lateness at first", x.way(0, 2, 1, 0, 4), 2);
        check.due("clock(0, 1) at first", x.clock(0, 1), false);
        for (int d = -5; d <= 9; d++) {
            DoorNet y = Nets.chain(3, 0, 0, 1);
            boolean is = d >= 0 && d <= 3;
            check.due("drift(" + d + ")", y.drift(d), is);
            check.due("count(3)", y.count(3), is ? d : 0);
            check.due("lateness", y.way(0, 2, 1, 0, 4), is ? 2 + 2 * d : 2);
        }
    }

    private void time() {
        check.promise("'takes a WIRE for z * SPEED TICKS, its TIME there'");
        for (int speed = 1; speed <= 3; speed++) {
            for (int size = 1; size <= 8; size++) {
                // The LENGTH is no part of the TIME: the wire is free behind size * speed.
                DoorNet x = Nets.oneWire(9, speed);
                x.send(0, 0, 1, size);
                x.send(0, 0, 1, 1);
                check.due("size " + size + ", speed " + speed + ": the next", x.plain(1, 20), size * speed);
                check.due("size " + size + ", speed " + speed + ": end", x.plain(0, 1), size * speed + 9);
            }
        }
    }

    private void goesOn() {
        check.promise("'wholly in the WIRE's other BOX LENGTH TICKS behind that, .. HOLD TICKS later, and twice the DRIFT'");
        DoorNet x = Nets.chain(3, 0, 0, 1);
        x.stream(0, 2, 1, 12, 50);
        x.plan();
        check.due("start with the least of all", x.place(0, 21), 1);
        DoorNet y = Nets.chain(3, 5, 9, 3);
        y.drift(3);
        y.cycle(24);
        y.stream(0, 2, 8, 24, 77);
        check.due("plan()", y.plan(), 1);
        check.due("start with the most of all", y.place(0, 21), 24 + 9 + 5 + 6);
        check.due("lateness", y.place(0, 3), 24 + 9 + 5 + 6 + 24 + 9);
    }

    private void oneToFourWires() {
        check.promise("'A WAY from BOX a to b is a row of 1 .. 4 WIRES'");
        DoorNet x = Nets.chain(6, 0, 0, 1);
        for (int b = 1; b < 5; b++) {
            check.due("way of " + b + " wires: lateness", x.way(0, b, 1, 0, 4), b);
            check.due("way of " + b + " wires: its last", x.way(0, b, 1, 0, b - 1), b - 1);
            check.due("way of " + b + " wires: no other", x.way(0, b, 1, 1, 4), -1);
        }
        check.due("a row of five", x.way(0, 5, 1, 0, 4), -1);
        check.due("a stream by five", x.stream(0, 5, 1, 12, 200), -2);
        check.due("a letter by five", x.send(0, 0, 5, 1), -2);
        check.due("a stream by four", x.stream(0, 4, 1, 12, 200), 0);
        check.due("a letter by four", x.send(0, 1, 5, 1), 0);
        check.due("its wires", x.plain(0, 0), 4);
        for (int b = 0; b < 6; b++) {
            check.due("a row of none", x.way(b, b, 1, 0, 4), -1);
        }
    }

    private void eachFromTheBoxAhead() {
        check.promise("'each from the BOX to which the one ahead leads'");
        DoorNet x = Nets.boxes(4, 0);
        x.wire(0, 1, 0, 1);
        x.wire(2, 3, 0, 1);
        x.wire(3, 1, 0, 1);
        x.wire(2, 1, 0, 1);
        check.due("no wire from 1", x.way(0, 3, 1, 0, 4), -1);
        check.due("a wire is not taken backwards", x.way(1, 0, 1, 0, 4), -1);
        check.due("first way from 2 to 1", x.way(2, 1, 1, 0, 0), 3);
        check.due("second way from 2 to 1", x.way(2, 1, 1, 1, 1), 2);
        check.due("no third", x.way(2, 1, 1, 2, 0), -1);
    }

    private void noBoxTwice() {
        check.promise("'by which no BOX is come to twice'");
        DoorNet x = Nets.boxes(4, 0);
        x.wire(0, 1, 0, 1);
        x.wire(1, 2, 0, 1);
        x.wire(2, 1, 0, 1);
        x.wire(1, 3, 0, 1);
        check.due("0, 1, 3", x.way(0, 3, 1, 0, 1), 3);
        check.due("not 0, 1, 2, 1, 3", x.way(0, 3, 1, 1, 4), -1);
        check.due("not 0, 1, 2, 1", x.way(0, 1, 1, 1, 4), -1);
        DoorNet y = Nets.boxes(3, 0);
        y.wire(0, 1, 0, 1);
        y.wire(1, 0, 0, 1);
        y.wire(1, 2, 0, 1);
        check.due("0, 1, 2", y.way(0, 2, 1, 0, 4), 2);
        check.due("not 0, 1, 0, 1, 2", y.way(0, 2, 1, 1, 4), -1);
    }

    private void latenessOfBoxesBetween() {
        check.promise("'TIMES and LENGTHS of all WIRES, and HOLD and twice the DRIFT of each BOX between'");
        // holds 5, 1, 2, 3, 5: those of the first box and of the last count nothing
        DoorNet x = new DoorNet();
        for (int hold : new int[] {5, 1, 2, 3, 5}) {
            x.box(hold);
        }
        x.wire(0, 1, 1, 1);
        x.wire(1, 2, 2, 2);
        x.wire(2, 3, 3, 3);
        x.wire(3, 4, 4, 1);
        x.drift(2);
        int[] due = {2 + 1, 3 + 1 + 4 + 4 + 2, 14 + 2 + 4 + 6 + 3, 29 + 3 + 4 + 2 + 4};
        for (int b = 1; b <= 4; b++) {
            check.due("lateness to box " + b, x.way(0, b, 2, 0, 4), due[b - 1]);
        }
    }

    private void greatestLateness() {
        check.promise("'Its LATENESS for a SIZE', the greatest and the least");
        DoorNet x = Nets.chain(5, 5, 9, 3);
        x.drift(3);
        check.due("the greatest", x.way(0, 4, 8, 0, 4), 4 * 33 + 3 * 11);
        DoorNet y = Nets.chain(5, 0, 0, 1);
        check.due("the least", y.way(0, 1, 1, 0, 4), 1);
    }

    private void orderByLateness() {
        check.promise("'WAYS are ordered by LATENESS'");
        // later numbers are earlier; a way of many wires may be ahead of one of few
        DoorNet x = Nets.boxes(3, 0);
        x.wire(0, 2, 9, 1);
        x.wire(0, 2, 8, 1);
        x.wire(0, 1, 1, 1);
        x.wire(1, 2, 1, 1);
        int[] first = {2, 1, 0};
        int[] late = {4, 9, 10};
        for (int k = 0; k < 3; k++) {
            check.due("way " + k, x.way(0, 2, 1, k, 0), first[k]);
            check.due("lateness " + k, x.way(0, 2, 1, k, 4), late[k]);
        }
        check.due("size 8: 16 + 2, 17, 16: the first", x.way(0, 2, 8, 0, 0), 1);
        check.due("size 8: the second", x.way(0, 2, 8, 1, 0), 0);
        check.due("size 8: the third", x.way(0, 2, 8, 2, 0), 2);
    }

    private void orderByWires() {
        check.promise("'then by the first WIRE's number, then the second's, ..'");
        // Two wires for each step, those of the last step made first; all ways are equally late.
        DoorNet x = Nets.boxes(5, 0);
        for (int step = 3; step >= 0; step--) {
            x.wire(step, step + 1, 1, 1);
            x.wire(step, step + 1, 1, 1);
        }
        for (int k = 0; k < 16; k++) {
            for (int i = 0; i < 4; i++) {
                int due = 2 * (3 - i) + (k >> 3 - i & 1);
                check.due("way " + k + ", wire " + i, x.way(0, 4, 1, k, i), due);
            }
        }
        check.due("no seventeenth", x.way(0, 4, 1, 16, 0), -1);
        // A way of one wire of number 2 is behind one of two wires that begins with number 1.
        DoorNet y = Nets.boxes(3, 0);
        y.wire(1, 2, 0, 1);
        y.wire(0, 1, 0, 1);
        y.wire(0, 2, 1, 1);
        check.due("of 2 and 2 that by wire 1", y.way(0, 2, 1, 0, 0), 1);
        check.due("then that by wire 2", y.way(0, 2, 1, 1, 0), 2);
        DoorNet z = Nets.boxes(3, 0);
        z.wire(1, 2, 0, 1);
        z.wire(0, 2, 1, 1);
        z.wire(0, 1, 0, 1);
        check.due("of 2 and 2 that by wire 1", z.way(0, 2, 1, 0, 0), 1);
        check.due("then that by wire 2", z.way(0, 2, 1, 1, 0), 2);
    }
}
