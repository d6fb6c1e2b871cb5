/** Promise 16: wireSize and wireInfo. */
public final class P16WireInfoTest {
    private static final String SIZE = "wireSize answers the number of messages on wire dir"
        + " (0..WIRE_CAP), or -1 if dir is not 0 or 1.";
    private static final String REFUSED = "It answers -1 if dir is not 0 or 1, pos is not in"
        + " 0..size-1, or field is not 0..6.";

    private static void due(PppNegotiator x, int dir, int pos, int field, int answer) {
        Check.due("wireInfo(" + dir + ", " + pos + ", " + field + ")",
            x.wireInfo(dir, pos, field), answer);
    }

    private static void noSuchWire() {
        Check.sentence("Promise 16", SIZE);
        PppNegotiator x = Scene.busy();
        for (int dir : Check.outside(0, 1)) {
            Check.due("wireSize(" + dir + ")", x.wireSize(dir), -1);
        }
        Check.sentence("Promise 16", REFUSED);
        for (int dir : Check.outside(0, 1)) {
            for (int field = 0; field < 7; field++) {
                due(x, dir, 0, field, -1);
            }
        }
    }

    /** No code, id or data here is -1, so that an answer from another place would show. */
    private static void noSuchPosition() {
        Check.sentence("Promise 16", REFUSED);
        for (int size = 0; size <= 8; size++) {
            PppNegotiator x = Scene.fresh();
            for (int i = 0; i < size; i++) {
                x.inject(0, 20, 5);
            }
            Scene.fill(x, 1);
            for (int pos : Check.outside(0, size - 1)) {
                for (int field = 0; field < 7; field++) {
                    due(x, 0, pos, field, -1);
                }
            }
            due(x, 0, size - 1, PppNegotiator.W_DATA, size == 0 ? -1 : 5);
        }
    }

    /** A product of position and fields that wraps around must not lead back into the wire. */
    private static void farPositions() {
        Check.sentence("Promise 16", REFUSED);
        PppNegotiator x = Scene.fresh();
        Scene.fill(x, 0);
        Scene.fill(x, 1);
        for (int shift = 3; shift < 32; shift++) {
            for (int dir = 0; dir < 2; dir++) {
                due(x, dir, 1 << shift, PppNegotiator.W_CODE, -1);
                due(x, dir, -(1 << shift), PppNegotiator.W_CODE, -1);
            }
        }
    }

    private static void noSuchField() {
        Check.sentence("Promise 16", REFUSED);
        PppNegotiator x = Scene.fresh();
        for (int dir = 0; dir < 2; dir++) {
            Scene.fill(x, dir);
        }
        for (int field : Check.outside(0, 6)) {
            for (int pos = 0; pos < 8; pos++) {
                due(x, 0, pos, field, -1);
                due(x, 1, pos, field, -1);
            }
        }
    }

    private static void nothingChanges() {
        Check.sentence("Promise 16", "Neither changes anything.");
        PppNegotiator x = Scene.busy();
        int[] before = Check.everything(x);
        for (int dir = -1; dir <= 2; dir++) {
            x.wireSize(dir);
            for (int pos = -1; pos <= 8; pos++) {
                for (int field = -1; field <= 7; field++) {
                    x.wireInfo(dir, pos, field);
                }
            }
        }
        Check.unchanged("wireSize and wireInfo", x, before);
    }

    private static void sizes(int dir) {
        Check.sentence("Promise 16", SIZE);
        PppNegotiator x = Scene.fresh();
        Check.due("an empty wire", x.wireSize(dir), 0);
        for (int size = 1; size <= 8; size++) {
            x.inject(dir, 20, size);
            Check.due("wireSize", x.wireSize(dir), size);
            Check.due("the other wire", x.wireSize(1 - dir), 0);
            Check.due("last", x.wireInfo(dir, size - 1, PppNegotiator.W_DATA), size);
            Check.due("past the last", x.wireInfo(dir, size, PppNegotiator.W_DATA), -1);
        }
        x.drop(dir);
        Check.due("last after a drop", x.wireInfo(dir, 6, PppNegotiator.W_DATA), 8);
        Check.due("past the last after a drop", x.wireInfo(dir, 7, PppNegotiator.W_DATA), -1);
    }

    private static void fields() {
        Check.sentence("Promise 16", "wireInfo answers a field of the message at position pos (0 ="
            + " head) of wire dir: W_CODE, W_ID, W_DATA, or W_OPT + o for option field o (0..3).");
        PppNegotiator x = Scene.fresh();
        for (int o = 0; o < 4; o++) {
            x.setRange(1, o, 0, 100 + o);
        }
        x.up(1);
        x.inject(0, 44, 0);
        x.deliver(0);
        x.open(1);
        Check.due("W_CODE", x.wireInfo(1, 0, PppNegotiator.W_CODE), 7);
        Check.due("W_ID", x.wireInfo(1, 0, PppNegotiator.W_ID), 1);
        Check.due("W_DATA", x.wireInfo(1, 0, PppNegotiator.W_DATA), 44);
        Check.due("W_OPT", x.wireInfo(1, 0, PppNegotiator.W_OPT), -1);
        Check.due("W_CODE", x.wireInfo(1, 1, PppNegotiator.W_CODE), 1);
        Check.due("W_ID", x.wireInfo(1, 1, PppNegotiator.W_ID), 2);
        Check.due("W_DATA", x.wireInfo(1, 1, PppNegotiator.W_DATA), 0);
        for (int o = 0; o < 4; o++) {
            Check.due("W_OPT + " + o, x.wireInfo(1, 1, PppNegotiator.W_OPT + o), 100 + o);
        }
    }

    public static void main(String[] args) {
        noSuchWire();
        noSuchPosition();
        farPositions();
        noSuchField();
        nothingChanges();
        sizes(0);
        sizes(1);
        fields();
        Check.end();
    }
}
