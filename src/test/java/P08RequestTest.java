/** Promise 8, code 1: good and bad Configure-Requests in every state of peer 0. */
public final class P08RequestTest {
    private static final int GOOD = 1500;
    private static final int BAD = 2000;

    private static void checkItems(String what, PppNegotiator x, int[] items) {
        Check.peer(what, x, 0, PppNegotiator.INFO_STATE, items[0], PppNegotiator.INFO_UPS, items[1],
            PppNegotiator.INFO_DOWNS, items[2], PppNegotiator.INFO_RESTART, items[3],
            PppNegotiator.INFO_TIMER, items[4], PppNegotiator.INFO_NAKS, items[5]);
    }

    /** The items due: state, ups, downs, restart, timer, naks; then the codes sent, in order. */
    private static void request(int state, int mru, int[] items, int... codes) {
        PppNegotiator x = Scene.in(state);
        Scene.requestOfPeer1(x, mru);
        int id = x.wireInfo(1, 0, PppNegotiator.W_ID);
        int nextId = x.peerInfo(0, PppNegotiator.INFO_NEXT_ID);
        String what = "request for " + mru + " in state " + state;
        Check.due(what, x.deliver(1), 1);
        checkItems(what, x, items);
        Check.peer(what, x, 0, PppNegotiator.INFO_HIGH_CR, id);
        Check.due(what + ": messages", x.wireSize(0), codes.length);
        boolean acked = false;
        for (int pos = 0; pos < codes.length; pos++) {
            switch (codes[pos]) {
                case 1 -> Check.message(what, x, 0, pos, 1, nextId + 1, 0, 1500, -1, -1, 15);
                case 2 -> Check.message(what, x, 0, pos, 2, id, 0, mru, -1, -1, 15);
                case 3 -> Check.message(what, x, 0, pos, 3, id, 0, 1500, -1, -1, -1);
                default -> Check.message(what, x, 0, pos, 6, id, 0, -1, -1, -1, -1);
            }
            acked |= codes[pos] == 2;
        }
        if (acked) {
            Check.options(what, x, 0, PppNegotiator.OI_REMOTE, mru, -1, -1, 15);
        } else if (state <= 6) {
            Check.options(what, x, 0, PppNegotiator.OI_REMOTE, -1, -1, -1, -1);
        }
    }

    /** A request with a lower id than one accepted before is discarded; an equal one is not. */
    private static void highCr() {
        PppNegotiator x = Scene.in(6);
        Scene.requestOfPeer1(x, GOOD);
        x.duplicate(1);
        x.duplicate(1);
        x.tick();
        x.tick();
        x.tick();
        Scene.empty(x, 0);
        Check.due("ids on the wire", x.wireInfo(1, 3, PppNegotiator.W_ID), 2);
        x.deliver(1);
        Check.peer("first", x, 0, PppNegotiator.INFO_HIGH_CR, 1);
        x.deliver(1);
        Check.due("the same id again", x.wireSize(0), 2);
        x.rotate(1);
        x.deliver(1);
        Check.peer("a higher id", x, 0, PppNegotiator.INFO_HIGH_CR, 2);
        Check.due("a higher id", x.wireSize(0), 3);
        int[] before = Check.everything(x);
        before[before.length / 2 + 13 + 4 * 7]--;
        for (int field = 0; field < 7; field++) {
            before[before.length / 2 + 13 + 4 * 7 + 1 + field] = -1;
        }
        Check.due("a lower id", x.deliver(1), 1);
        Check.unchanged("a lower id", x, before);
    }

    /** In states 2, 4 and 5 the id is kept, and a lower one is discarded without an answer. */
    private static void highCrWhileClosed() {
        for (int state : new int[] {2, 4, 5}) {
            PppNegotiator x = Scene.in(state);
            Scene.requestOfPeer1(x, GOOD);
            x.duplicate(1);
            Scene.ticks(x, 3);
            Scene.find(x, 1, PppNegotiator.CODE_CONF_REQ);
            while (x.wireInfo(1, 0, PppNegotiator.W_ID) != 2) {
                x.rotate(1);
            }
            Scene.empty(x, 0);
            x.deliver(1);
            Check.peer("kept in state " + state, x, 0, PppNegotiator.INFO_HIGH_CR, 2);
            Scene.empty(x, 0);
            Check.due("an old one", x.wireInfo(1, 0, PppNegotiator.W_ID), 1);
            x.deliver(1);
            Check.due("no answer to an old one", x.wireSize(0), 0);
            Check.peer("kept in state " + state, x, 0, PppNegotiator.INFO_HIGH_CR, 2);
        }
    }

    /** In state 3 a range set before counts from the request on: start comes before CLASSIFY. */
    private static void startInStopped() {
        PppNegotiator x = Scene.in(3);
        x.setRange(0, PppNegotiator.OPT_MAGIC, 5, 9);
        x.setRange(0, PppNegotiator.OPT_COMP, 1, 0);
        x.setRange(1, PppNegotiator.OPT_MAGIC, 5, 9);
        Scene.requestOfPeer1(x, GOOD);
        x.deliver(1);
        Check.options("start", x, 0, PppNegotiator.OI_WANT, 1500, 0, 9, 0);
        Check.options("start", x, 0, PppNegotiator.OI_INCLUDED, 1, 0, 1, 0);
        Check.peer("start", x, 0, PppNegotiator.INFO_STATE, 6);
        Check.message("request", x, 0, 0, 1, 11, 0, 1500, -1, 9, -1);
        Check.message("reject", x, 0, 1, 4, 1, 0, -1, -1, -1, 15);

        x = Scene.in(3);
        x.setRange(0, PppNegotiator.OPT_MAGIC, 5, 9);
        x.setRange(1, PppNegotiator.OPT_MAGIC, 5, 9);
        Scene.requestOfPeer1(x, GOOD);
        x.deliver(1);
        Check.message("the magic of the new start", x, 0, 1, 3, 1, 0, -1, -1, 8, -1);
        Check.peer("the nak counts", x, 0, PppNegotiator.INFO_NAKS, 1);
    }

    /** The document's words hold for a full wire too: remote, naks and state change all the same. */
    private static void fullWire() {
        PppNegotiator x = Scene.in(6);
        Scene.requestOfPeer1(x, GOOD);
        Scene.fill(x, 0);
        x.deliver(1);
        Check.due("full wire", x.wireSize(0), 8);
        Check.message("full wire", x, 0, 7, 11, 0, 0, -1, -1, -1, -1);
        Check.peer("full wire", x, 0, PppNegotiator.INFO_STATE, 8);
        Check.options("full wire", x, 0, PppNegotiator.OI_REMOTE, 1500, -1, -1, 15);
        x = Scene.in(6);
        Scene.requestOfPeer1(x, BAD);
        Scene.fill(x, 0);
        x.deliver(1);
        Check.peer("full wire", x, 0, PppNegotiator.INFO_STATE, 6, PppNegotiator.INFO_NAKS, 1);
    }

    public static void main(String[] args) {
        // Items: state, ups, downs, restart, timer, naks.
        request(2, GOOD, new int[] {2, 0, 0, 0, 0, 0}, 6);
        request(3, GOOD, new int[] {8, 0, 0, 9, 3, 0}, 1, 2);
        request(4, GOOD, new int[] {4, 0, 0, 1, 3, 0});
        request(5, GOOD, new int[] {5, 0, 0, 1, 3, 0});
        request(6, GOOD, new int[] {8, 0, 0, 9, 3, 0}, 2);
        request(7, GOOD, new int[] {9, 1, 0, 10, 0, 0}, 2);
        request(8, GOOD, new int[] {8, 0, 0, 9, 3, 0}, 2);
        request(9, GOOD, new int[] {8, 1, 1, 9, 3, 0}, 1, 2);
        request(2, BAD, new int[] {2, 0, 0, 0, 0, 0}, 6);
        request(3, BAD, new int[] {6, 0, 0, 9, 3, 1}, 1, 3);
        request(4, BAD, new int[] {4, 0, 0, 1, 3, 0});
        request(5, BAD, new int[] {5, 0, 0, 1, 3, 0});
        request(6, BAD, new int[] {6, 0, 0, 9, 3, 1}, 3);
        request(7, BAD, new int[] {7, 0, 0, 10, 3, 1}, 3);
        request(8, BAD, new int[] {6, 0, 0, 9, 3, 1}, 3);
        request(9, BAD, new int[] {6, 1, 1, 9, 3, 1}, 1, 3);
        highCr();
        highCrWhileClosed();
        startInStopped();
        fullWire();
        Check.end();
    }
}
