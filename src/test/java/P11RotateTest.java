/** Promise 11: the head goes to the tail, and the others keep their order. */
public final class P11RotateTest {
    private static final String REFUSED =
        "Answers false and changes nothing if dir is not 0 or 1 or wire dir is empty.";
    private static final String MOVED = "Otherwise the head message moves to the tail, the others"
        + " keeping their order, and the answer is true.";

    private static void noSuchWire() {
        Check.sentence("Promise 11", REFUSED);
        PppNegotiator x = Scene.busy();
        int[] before = Check.everything(x);
        for (int dir : Check.outside(0, 1)) {
            Check.refused("rotate(" + dir + ")", x, x.rotate(dir), before);
        }
    }

    private static void emptyWire(int dir) {
        Check.sentence("Promise 11", REFUSED);
        PppNegotiator x = Scene.fresh();
        int[] before = Check.everything(x);
        Check.refused("rotate of nothing", x, x.rotate(dir), before);
        x.inject(1 - dir, 8, 1);
        x.inject(1 - dir, 12, 2);
        before = Check.everything(x);
        Check.refused("rotate of nothing beside messages", x, x.rotate(dir), before);
    }

    private static void alone(int dir) {
        Check.sentence("Promise 11", MOVED);
        PppNegotiator x = Scene.fresh();
        x.up(dir);
        x.open(dir);
        int[] before = Check.everything(x);
        Check.due("rotate of one message", x.rotate(dir), true);
        Check.unchanged("rotate of one message", x, before);
    }

    /** All the fields go along, on a wire of that size, up to a full one. */
    private static void several(int dir, int size) {
        Check.sentence("Promise 11", MOVED);
        PppNegotiator x = Scene.fresh();
        x.up(dir);
        x.open(dir);
        for (int i = 1; i < size; i++) {
            x.inject(dir, 20 + i, 30 + i);
        }
        x.inject(1 - dir, 50, 51);
        int[] before = Check.everything(x);
        int[] items = Check.items(x);
        int[] other = Check.wire(x, 1 - dir);
        Check.due("rotate", x.rotate(dir), true);
        Check.same("no peer changes", Check.items(x), items);
        Check.same("the other wire", Check.wire(x, 1 - dir), other);
        Check.due("size", x.wireSize(dir), size);
        for (int i = 1; i < size; i++) {
            Check.message("moved up", x, dir, i - 1, 20 + i, 0, 30 + i, -1, -1, -1, -1);
        }
        Check.message("at the tail", x, dir, size - 1, 1, 1, 0, 1500, -1, 65535, 15);
        for (int i = 1; i < size; i++) {
            x.rotate(dir);
        }
        Check.unchanged("a whole turn", x, before);
    }

    public static void main(String[] args) {
        noSuchWire();
        for (int dir = 0; dir < 2; dir++) {
            emptyWire(dir);
            alone(dir);
            for (int size = 2; size <= 8; size++) {
                several(dir, size);
            }
        }
        Check.end();
    }
}
