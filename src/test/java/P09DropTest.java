/** Promise 9: the head is lost, and no peer hears of it. */
public final class P09DropTest {
    private static final String REFUSED =
        "Answers false and changes nothing if dir is not 0 or 1 or wire dir is empty.";
    private static final String DROPPED =
        "Otherwise the head message is removed and lost, and the answer is true.";

    private static void noSuchWire() {
        Check.sentence("Promise 9", REFUSED);
        PppNegotiator x = Scene.busy();
        int[] before = Check.everything(x);
        for (int dir : Check.outside(0, 1)) {
            Check.refused("drop(" + dir + ")", x, x.drop(dir), before);
        }
    }

    private static void emptyWire() {
        Check.sentence("Promise 9", REFUSED);
        for (int dir = 0; dir < 2; dir++) {
            PppNegotiator x = Scene.fresh();
            int[] before = Check.everything(x);
            Check.refused("drop of nothing", x, x.drop(dir), before);
            x.inject(1 - dir, 8, 1);
            before = Check.everything(x);
            Check.refused("drop of nothing beside a message", x, x.drop(dir), before);
        }
    }

    private static void head(int dir) {
        Check.sentence("Promise 9", DROPPED);
        PppNegotiator x = Scene.fresh();
        x.open(dir);
        x.up(dir);
        x.inject(dir, 20, 5);
        x.inject(dir, 21, 6);
        x.inject(1 - dir, 22, 7);
        int[] other = Check.wire(x, 1 - dir);
        Check.due("drop", x.drop(dir), true);
        Check.due("left", x.wireSize(dir), 2);
        Check.message("left", x, dir, 0, 20, 0, 5, -1, -1, -1, -1);
        Check.message("left", x, dir, 1, 21, 0, 6, -1, -1, -1, -1);
        Check.same("the other wire", Check.wire(x, 1 - dir), other);
    }

    private static void fromFullToEmpty(int dir) {
        Check.sentence("Promise 9", DROPPED);
        PppNegotiator x = Scene.fresh();
        int[] before = Check.everything(x);
        for (int i = 0; i < 8; i++) {
            x.inject(dir, 20 + i, 30 + i);
        }
        for (int left = 7; left >= 0; left--) {
            Check.due("drop", x.drop(dir), true);
            Check.due("left", x.wireSize(dir), left);
            Check.due("the last one", x.wireInfo(dir, left - 1, PppNegotiator.W_DATA),
                left == 0 ? -1 : 37);
        }
        Check.refused("drop on the emptied wire", x, x.drop(dir), before);
    }

    /** Messages of every code, each to a peer that would have something to do with it. */
    private static void noPeer() {
        Check.sentence("Promise 9", "No peer changes.");
        for (int state = 0; state <= 9; state++) {
            PppNegotiator x = Scene.in(state);
            x.up(1);
            x.open(1);
            x.close(1);
            x.inject(1, PppNegotiator.CODE_CODE_REJ, 1);
            x.inject(1, 8, 0);
            int[] items = Check.items(x);
            for (int left = x.wireSize(1); left > 0; left--) {
                Check.due("drop", x.drop(1), true);
                Check.same("drop in state " + state + ": the same items", Check.items(x), items);
            }
            Check.due("no response", x.wireSize(0), 0);
        }
    }

    public static void main(String[] args) {
        noSuchWire();
        emptyWire();
        for (int dir = 0; dir < 2; dir++) {
            head(dir);
            fromFullToEmpty(dir);
        }
        noPeer();
        Check.end();
    }
}
