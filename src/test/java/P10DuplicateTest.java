/** Promise 10: an exact copy of the head at the tail, if there is room. */
public final class P10DuplicateTest {
    private static final String REFUSED = "Answers false and changes nothing if dir is not 0 or 1,"
        + " wire dir is empty, or it is full.";
    private static final String COPIED = "Otherwise an exact copy of the head message is appended at"
        + " the tail and the answer is true.";

    private static void noSuchWire() {
        Check.sentence("Promise 10", REFUSED);
        PppNegotiator x = Scene.busy();
        int[] before = Check.everything(x);
        for (int dir : Check.outside(0, 1)) {
            Check.refused("duplicate(" + dir + ")", x, x.duplicate(dir), before);
        }
    }

    private static void emptyWire(int dir) {
        Check.sentence("Promise 10", REFUSED);
        PppNegotiator x = Scene.fresh();
        int[] before = Check.everything(x);
        Check.refused("duplicate of nothing", x, x.duplicate(dir), before);
        x.inject(1 - dir, 8, 1);
        before = Check.everything(x);
        Check.refused("duplicate of nothing beside a message", x, x.duplicate(dir), before);
        x.inject(dir, 8, 1);
        x.drop(dir);
        Check.refused("duplicate on an emptied wire", x, x.duplicate(dir), before);
    }

    /** With different messages on it, so that a copy in a wrong place would show. */
    private static void fullWire(int dir) {
        Check.sentence("Promise 10", REFUSED);
        PppNegotiator x = Scene.fresh();
        for (int i = 0; i < 8; i++) {
            x.inject(dir, 20 + i, i);
        }
        int[] before = Check.everything(x);
        Check.refused("duplicate on a full wire", x, x.duplicate(dir), before);
        Check.due("room again", x.drop(dir), true);
        Check.due("duplicate on seven", x.duplicate(dir), true);
        Check.message("the copy", x, dir, 7, 21, 0, 1, -1, -1, -1, -1);
        before = Check.everything(x);
        Check.refused("duplicate on eight", x, x.duplicate(dir), before);
    }

    private static void exactCopy(int dir) {
        Check.sentence("Promise 10", COPIED);
        PppNegotiator x = Scene.fresh();
        x.setRange(dir, PppNegotiator.OPT_AUTH, 7, 8);
        x.up(dir);
        x.open(dir);
        x.inject(dir, 20, -5);
        int[] items = Check.items(x);
        Check.due("duplicate", x.duplicate(dir), true);
        Check.due("size", x.wireSize(dir), 3);
        Check.message("head", x, dir, 0, 1, 1, 0, 1500, 8, 65535, 15);
        Check.message("between", x, dir, 1, 20, 0, -5, -1, -1, -1, -1);
        Check.message("copy", x, dir, 2, 1, 1, 0, 1500, 8, 65535, 15);
        Check.due("the other wire", x.wireSize(1 - dir), 0);
        Check.same("no peer changes", Check.items(x), items);
        x.rotate(dir);
        x.duplicate(dir);
        Check.message("copy with data", x, dir, 3, 20, 0, -5, -1, -1, -1, -1);
    }

    /** From one message to eight; the copies come after what was there. */
    private static void oneToEight(int dir) {
        Check.sentence("Promise 10", COPIED);
        PppNegotiator x = Scene.fresh();
        x.inject(dir, 20, 1);
        for (int size = 2; size <= 8; size++) {
            Check.due("duplicate", x.duplicate(dir), true);
            Check.due("size", x.wireSize(dir), size);
            Check.message("the copy", x, dir, size - 1, 20, 0, 1, -1, -1, -1, -1);
        }
    }

    public static void main(String[] args) {
        noSuchWire();
        for (int dir = 0; dir < 2; dir++) {
            emptyWire(dir);
            fullWire(dir);
            exactCopy(dir);
            oneToEight(dir);
        }
        Check.end();
    }
}
