import java.util.Random;

/** Long runs of calls on DoorNet and on the model, which must answer alike. */
public final class ModelTest {
    private static final int RUNS = 600;
    // Two calls are made at most for each of these, so that an object's 512 are not passed.
    private static final int STEPS = 240;

    private static final int ANY = 0;
    private static final int CROWDED = 1;
    private static final int AROUND = 2;
    private static final int TIGHT = 3;
    private static final int STYLES = 4;

    private final Check check;
    private final Random random;
    private final DoorNet net = new DoorNet();
    private final Model model = new Model();
    // Every so many values one near the edges, so that refusals are met too.
    private final int oddness;
    private final int style;

    private ModelTest(Check itsCheck, int seed) {
        check = itsCheck;
        random = new Random(seed);
        oddness = 4 + random.nextInt(40);
        style = seed % STYLES;
        check.promise("model run " + seed);
    }

    public static void main(String[] args) {
        Check check = new Check();
        int runs = args.length > 0 ? Integer.parseInt(args[0]) : RUNS;
        for (int seed = 1; seed <= runs && !check.anyWrong(); seed++) {
            new ModelTest(check, seed).run();
        }
        check.end();
    }

    private void run() {
        if (style == TIGHT) {
            runTight();
            return;
        }
        makeNet();
        for (int c = 0; c < STEPS && !check.anyWrong(); c++) {
            call(c < 80 ? random.nextInt(62) : random.nextInt(100));
        }
    }

    /** One or two wires that are filled till old streams must be stirred for new ones. */
    private void runTight() {
        int wires = 1 + random.nextInt(2);
        box(0);
        box(0);
        for (int w = 0; w < wires; w++) {
            wire(0, 1, random.nextInt(3), 1);
        }
        check.due("cycle(24)", net.cycle(24), model.cycle(24));
        int left = 24 * wires;
        for (int s = 0; s < 8; s++) {
            int letters = 1 + random.nextInt(4);
            int size = 1 + random.nextInt(letters > 2 ? 2 : 8);
            if (size * letters <= left) {
                stream(0, 1, size, 24 / letters, 50);
                left -= size * letters;
            }
            fitTight();
        }
        for (int turn = 0; turn < 25 && !check.anyWrong(); turn++) {
            strike(random.nextInt(8));
            if (random.nextBoolean()) {
                fitTight();
            }
        }
    }

    private void fitTight() {
        check.due("add()", net.add(), model.add());
        check.due("tries()", net.tries(), model.tries());
        check.due("stir()", net.stir(), model.stir());
        check.due("tries()", net.tries(), model.tries());
        for (int s = 0; s < model.count(4); s++) {
            check.due("place(" + s + ", 1)", net.place(s, 1), model.place(s, 1));
        }
    }

    private void strike(int s) {
        check.due("strike(" + s + ")", net.strike(s), model.strike(s));
    }

    private void makeNet() {
        int boxes = style == CROWDED ? 2 + random.nextInt(2) : style == AROUND ? 5 + random.nextInt(2) : 2 + random.nextInt(5);
        for (int b = 0; b < boxes; b++) {
            box(random.nextInt(6));
        }
        if (style == AROUND) {
            for (int b = 0; b < boxes; b++) {
                wire(b, (b + 1) % boxes, random.nextInt(10), 1 + random.nextInt(3));
            }
        }
        int wires = style == CROWDED ? 1 + random.nextInt(4) : 1 + random.nextInt(13);
        for (int w = 0; w < wires; w++) {
            wire(pickBox(), pickBox(), pick(0, 9), pick(1, 3));
        }
        if (style != ANY) {
            int h = random.nextInt(3) > 0 ? 24 : 48;
            int d = random.nextInt(4);
            check.due("cycle(" + h + ")", net.cycle(h), model.cycle(h));
            check.due("drift(" + d + ")", net.drift(d), model.drift(d));
        }
    }

    private int pick(int least, int greatest) {
        if (random.nextInt(oddness) > 0) {
            return least + random.nextInt(greatest - least + 1);
        }
        int[] odd = {least - 1, greatest + 1, -1, Integer.MIN_VALUE, Integer.MAX_VALUE, least, greatest};
        return odd[random.nextInt(odd.length)];
    }

    private int pickBox() {
        return pick(0, Math.max(0, model.count(0) - 1));
    }

    private int pickWire() {
        return pick(0, Math.max(0, model.count(1) - 1));
    }

    private int pickStream() {
        return pick(0, Math.max(0, model.count(4) - 1));
    }

    private void box(int hold) {
        check.due("box(" + hold + ")", net.box(hold), model.box(hold));
    }

    private void wire(int a, int b, int length, int speed) {
        check.due("wire(" + a + ", " + b + ", " + length + ", " + speed + ")",
                net.wire(a, b, length, speed), model.wire(a, b, length, speed));
    }

    private void call(int kind) {
        if (kind < 3) {
            setUp();
        } else if (kind < 13) {
            way();
        } else if (kind < 21) {
            stream();
        } else if (kind < 28) {
            fit();
        } else if (kind < 34) {
            place();
        } else if (kind < 44) {
            doors();
        } else if (kind < 47) {
            clock();
        } else if (kind < 53) {
            send();
        } else if (kind < 63) {
            ofStream();
        } else if (kind < 90) {
            plain();
        } else {
            counts();
        }
    }

    private void setUp() {
        switch (random.nextInt(4)) {
            case 0: {
                int[] all = {12, 24, 48, 60, 120, 36, 0, -12};
                int h = all[random.nextInt(all.length)];
                check.due("cycle(" + h + ")", net.cycle(h), model.cycle(h));
                break;
            }
            case 1: {
                int d = pick(0, 3);
                check.due("drift(" + d + ")", net.drift(d), model.drift(d));
                break;
            }
            case 2:
                wire(pickBox(), pickBox(), pick(0, 9), pick(1, 3));
                break;
            default:
                box(pick(0, 5));
                break;
        }
    }

    private void way() {
        int a = pickBox();
        int b = pickBox();
        int size = pick(1, 8);
        int k = pick(0, random.nextInt(20));
        int i = pick(0, 4);
        check.due("way(" + a + ", " + b + ", " + size + ", " + k + ", " + i + ")",
                net.way(a, b, size, k, i), model.way(a, b, size, k, i));
    }

    private void stream() {
        if (style != ANY && random.nextInt(4) > 0) {
            fittingStream();
            return;
        }
        int a = pickBox();
        int b = pickBox();
        int size = pick(1, random.nextBoolean() ? 3 : 8);
        int[] periods = {1, 2, 3, 4, 6, 12, 12, 24, 24, 60, 120, 48, 5, 0, -12};
        int period = random.nextInt(3) > 0 ? model.count(2) / (1 + random.nextInt(3)) : periods[random.nextInt(15)];
        int latest = pick(1, 200);
        if (random.nextInt(3) == 0) {
            latest = model.way(a, b, size, random.nextInt(3), 4) - random.nextInt(2);
        }
        stream(a, b, size, period, latest);
    }

    /** A stream that would most often fit if it were alone. */
    private void fittingStream() {
        for (int turn = 0; turn < 50; turn++) {
            int a = random.nextInt(model.count(0));
            int b = random.nextInt(model.count(0));
            int size = 1 + random.nextInt(4);
            int period = model.count(2) / (1 + random.nextInt(2));
            if (a != b && model.way(a, b, size, 0, 4) != -1 && size * 3 <= period) {
                stream(a, b, size, period, 200);
                return;
            }
        }
    }

    private void stream(int a, int b, int size, int period, int latest) {
        check.due("stream(" + a + ", " + b + ", " + size + ", " + period + ", " + latest + ")",
                net.stream(a, b, size, period, latest), model.stream(a, b, size, period, latest));
    }

    private void fit() {
        int kind = random.nextInt(8);
        if (kind == 0) {
            check.due("plan()", net.plan(), model.plan());
        } else if (kind < 3) {
            check.due("add()", net.add(), model.add());
        } else if (kind < 5) {
            check.due("stir()", net.stir(), model.stir());
        } else {
            strike(pickStream());
        }
        check.due("tries()", net.tries(), model.tries());
    }

    private void place() {
        int s = pickStream();
        int what = random.nextInt(3) * 10 + pick(0, 4);
        check.due("place(" + s + ", " + what + ")", net.place(s, what), model.place(s, what));
    }

    private void doors() {
        int w = pickWire();
        int t = pick(0, model.count(2) - 1);
        int size = pick(1, 8);
        switch (random.nextInt(5)) {
            case 0:
                check.due("worst(" + w + ", " + size + ")", net.worst(w, size), model.worst(w, size));
                break;
            case 1:
            case 2:
                check.due("waits(" + w + ", " + t + ", " + size + ")",
                        net.waits(w, t, size), model.waits(w, t, size));
                break;
            default:
                check.due("door(" + w + ", " + t + ")", net.door(w, t), model.door(w, t));
                break;
        }
    }

    private void clock() {
        int b = pickBox();
        int e = pick(-model.count(3), model.count(3));
        check.due("clock(" + b + ", " + e + ")", net.clock(b, e), model.clock(b, e));
    }

    private void send() {
        int tick = pick(0, random.nextInt(4) == 0 ? 999 : 30);
        int a = pickBox();
        int b = pickBox();
        int size = pick(1, 8);
        check.due("send(" + tick + ", " + a + ", " + b + ", " + size + ")",
                net.send(tick, a, b, size), model.send(tick, a, b, size));
    }

    private void ofStream() {
        int s = pickStream();
        int n = pick(0, 99);
        int k = pick(0, 3);
        int kOrEnd = random.nextInt(4) == 0 ? 9 : k;
        check.due("leaves(" + s + ", " + n + ", " + kOrEnd + ")", net.leaves(s, n, kOrEnd), model.leaves(s, n, kOrEnd));
        check.due("room(" + s + ", " + n + ", " + k + ")", net.room(s, n, k), model.room(s, n, k));
    }

    private void plain() {
        int l = pick(0, Math.max(0, model.count(6) - 1));
        int what = random.nextInt(4) * 10 + pick(0, 4);
        check.due("plain(" + l + ", " + what + ")", net.plain(l, what), model.plain(l, what));
    }

    private void counts() {
        int what = pick(0, 7);
        int w = pickWire();
        check.due("count(" + what + ")", net.count(what), model.count(what));
        check.due("most(" + w + ")", net.most(w), model.most(w));
    }
}
