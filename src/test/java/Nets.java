/** Small nets that several tests begin with. */
final class Nets {
    private Nets() {
    }

    /** Boxes 0 and 1 without a hold, and one wire from 0 to 1. */
    static DoorNet oneWire(int length, int speed) {
        return wires(1, length, speed);
    }

    /** Boxes 0 and 1 without a hold, and wires from 0 to 1 that are all alike. */
    static DoorNet wires(int many, int length, int speed) {
        DoorNet x = boxes(2, 0);
        for (int w = 0; w < many; w++) {
            x.wire(0, 1, length, speed);
        }
        return x;
    }

    static DoorNet boxes(int many, int hold) {
        DoorNet x = new DoorNet();
        for (int b = 0; b < many; b++) {
            x.box(hold);
        }
        return x;
    }

    /** Boxes in a row, each with a hold, and a wire from each to the next. */
    static DoorNet chain(int boxes, int hold, int length, int speed) {
        DoorNet x = boxes(boxes, hold);
        for (int b = 0; b + 1 < boxes; b++) {
            x.wire(b, b + 1, length, speed);
        }
        return x;
    }

    /** One wire on which streams of these sizes, each of period 12, stand one behind the other. */
    static DoorNet row(int... sizes) {
        DoorNet x = oneWire(0, 1);
        for (int size : sizes) {
            x.stream(0, 1, size, 12, 200);
        }
        x.plan();
        return x;
    }
}
