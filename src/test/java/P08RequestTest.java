/** Promise 8, code 1: good and bad Configure-Requests in every state of peer 0. */
public final class P08RequestTest {
    private static final String RECEPTION = "RECEPTION of message m by peer p";
    private static final String OLD = "1: if m.id < highCr, m is discarded.";
    private static final String QUIET = "(in states 2, 4, 5 the classification sends nothing and"
        + " changes nothing else)";
    private static final int GOOD = 1500;
    private static final int BAD = 2000;

    private static void checkItems(String what, PppNegotiator x, int[] items) {
        Check.peer(what, x, 0, PppNegotiator.INFO_STATE, items[0], PppNegotiator.INFO_UPS, items[1],
            PppNegotiator.INFO_DOWNS, items[2], PppNegotiator.INFO_RESTART, items[3],
            PppNegotiator.INFO_TIMER, items[4], PppNegotiator.INFO_NAKS, items[5]);
    }

    /** The items due: state, ups, downs, restart, timer, naks; then the codes sent, in order. */
    private static void request(int state, int mru, int[] items, int... codes) {
        Check.sentence("Transitions", mru == GOOD ? "RCR+" : "RCR-");
        PppNegotiator x = Scene.in(state);
        Scene.requestOfPeer1(x, mru);
        int id = x.wireInfo(1, 0, PppNegotiator.W_ID);
        int nextId = x.peerInfo(0, PppNegotiator.INFO_NEXT_ID);
        String what = "request for " + mru + " in state " + state;
        Check.due(what, x.deliver(1), 1);
        checkItems(what, x, items);
        Check.peer(what, x, 0, PppNegotiator.INFO_HIGH_CR, id);
        Check.due(what + ": messages", x.wireSize(0), codes.length);
        boolean acked = false;
        for (int pos = 0; pos < codes.length; pos++) {
            switch (codes[pos]) {
                case 1 -> Check.message(what, x, 0, pos, 1, nextId + 1, 0, 1500, -1, -1, 15);
                case 2 -> Check.message(what, x, 0, pos, 2, id, 0, mru, -1, -1, 15);
                case 3 -> Check.message(what, x, 0, pos, 3, id, 0, 1500, -1, -1, -1);
                default -> Check.message(what, x, 0, pos, 6, id, 0, -1, -1, -1, -1);
            }
            acked |= codes[pos] == 2;
        }
        if (acked) {
            Check.options(what, x, 0, PppNegotiator.OI_REMOTE, mru, -1, -1, 15);
        } else if (state <= 6) {
            Check.options(what, x, 0, PppNegotiator.OI_REMOTE, -1, -1, -1, -1);
        }
    }

    private static void everyState() {
        // Items: state, ups, downs, restart, timer, naks.
        request(2, GOOD, new int[] {2, 0, 0, 0, 0, 0}, 6);
        request(3, GOOD, new int[] {8, 0, 0, 9, 3, 0}, 1, 2);
        request(4, GOOD, new int[] {4, 0, 0, 1, 3, 0});
        request(5, GOOD, new int[] {5, 0, 0, 1, 3, 0});
        request(6, GOOD, new int[] {8, 0, 0, 9, 3, 0}, 2);
        request(7, GOOD, new int[] {9, 1, 0, 10, 0, 0}, 2);
        request(8, GOOD, new int[] {8, 0, 0, 9, 3, 0}, 2);
        request(9, GOOD, new int[] {8, 1, 1, 9, 3, 0}, 1, 2);
        request(2, BAD, new int[] {2, 0, 0, 0, 0, 0}, 6);
        request(3, BAD, new int[] {6, 0, 0, 9, 3, 1}, 1, 3);
        request(4, BAD, new int[] {4, 0, 0, 1, 3, 0});
        request(5, BAD, new int[] {5, 0, 0, 1, 3, 0});
        request(6, BAD, new int[] {6, 0, 0, 9, 3, 1}, 3);
        request(7, BAD, new int[] {7, 0, 0, 10, 3, 1}, 3);
        request(8, BAD, new int[] {6, 0, 0, 9, 3, 1}, 3);
        request(9, BAD, new int[] {6, 1, 1, 9, 3, 1}, 1, 3);
    }

    /** Beside highCr no item changes in these states, for a good, a bad and a hopeless request. */
    private static void quietStates() {
        Check.sentence(RECEPTION, QUIET);
        for (int state : new int[] {2, 4, 5}) {
            for (int mru : new int[] {GOOD, BAD}) {
                for (int hi = 0; hi <= 1; hi++) {
                    PppNegotiator x = Scene.in(state);
                    if (state == 2) {
                        x.setRange(0, PppNegotiator.OPT_COMP, 1, hi * 15);
                    }
                    Scene.requestOfPeer1(x, mru);
                    int[] due = Check.items(x);
                    due[PppNegotiator.INFO_HIGH_CR] = 1;
                    x.deliver(1);
                    String what = "request for " + mru + " in state " + state;
                    Check.same(what + ": the items due", Check.items(x), due);
                    Check.due(what + ": messages", x.wireSize(0), state == 2 ? 1 : 0);
                }
            }
        }
    }

    /**
     * In state 2 every request that is not discarded is answered with a Terminate-Ack of its id. The
     * request comes twice and is peer 1's third, so that no counter of peer 0 has the same number.
     */
    private static void terminateAckInClosed(int mru, boolean hopeless) {
        Check.sentence("Transitions", mru == GOOD && !hopeless ? "RCR+: 2: sta" : "RCR-: 2: sta");
        PppNegotiator x = Scene.in(2);
        if (hopeless) {
            x.setRange(0, PppNegotiator.OPT_COMP, 1, 0);
        }
        for (int id = 1; id <= 3; id++) {
            Scene.requestOfPeer1(x, mru);
        }
        x.duplicate(1);
        int[] due = Check.items(x);
        due[PppNegotiator.INFO_HIGH_CR] = 3;
        for (int times = 1; times <= 2; times++) {
            String what = "request for " + mru + (hopeless ? ", hopeless" : "") + ", time " + times;
            Check.due(what, x.deliver(1), 1);
            Check.same(what + ": the items due", Check.items(x), due);
            Check.due(what + ": messages", x.wireSize(0), times);
            Check.message(what, x, 0, times - 1, 6, 3, 0, -1, -1, -1, -1);
        }
    }

    /** Requests 1, 1, 2 and 1 of peer 1 on wire 1; peer 0 in the given state. */
    private static PppNegotiator withOldRequests(int state) {
        PppNegotiator x = Scene.in(state);
        Scene.requestOfPeer1(x, GOOD);
        x.duplicate(1);
        x.duplicate(1);
        Scene.ticks(x, x.peerInfo(1, PppNegotiator.INFO_TIMER));
        x.rotate(1);
        Scene.empty(x, 0);
        int[] ids = {1, 1, 2, 1};
        for (int pos = 0; pos < 4; pos++) {
            Check.due("id on the wire", x.wireInfo(1, pos, PppNegotiator.W_ID), ids[pos]);
        }
        Check.peer("before", x, 0, PppNegotiator.INFO_STATE, state, PppNegotiator.INFO_HIGH_CR, 0);
        return x;
    }

    private static void firstAndEqualIds() {
        Check.sentence(RECEPTION, OLD);
        PppNegotiator x = withOldRequests(6);
        x.deliver(1);
        Check.peer("the first id", x, 0, PppNegotiator.INFO_HIGH_CR, 1);
        Check.due("the first id", x.wireSize(0), 1);
        x.deliver(1);
        Check.peer("the same id again", x, 0, PppNegotiator.INFO_HIGH_CR, 1);
        Check.due("the same id again", x.wireSize(0), 2);
        x.deliver(1);
        Check.peer("a higher id", x, 0, PppNegotiator.INFO_HIGH_CR, 2);
        Check.due("a higher id", x.wireSize(0), 3);
    }

    /** In every state: after request 2 has come, request 1 changes nothing but its wire. */
    private static void lowerIds(int state) {
        Check.sentence(RECEPTION, OLD);
        PppNegotiator x = withOldRequests(state);
        x.drop(1);
        x.drop(1);
        x.deliver(1);
        Check.peer("a higher id", x, 0, PppNegotiator.INFO_HIGH_CR, 2);
        Scene.empty(x, 0);
        int[] items = Check.items(x);
        String what = "a lower id, after one in state " + state;
        Check.due(what, x.deliver(1), 1);
        Check.same(what + ": the same items", Check.items(x), items);
        Check.due(what + ": no response", x.wireSize(0), 0);
        Check.due(what + ": gone", x.wireSize(1), 0);
    }

    /** A request that is discarded begins no negotiation: the old want and included stay. */
    private static void noStartForAnOldOne() {
        Check.sentence(RECEPTION, "Else highCr = m.id; if the state is 3, start is done now; then"
            + " CLASSIFY gives RCR+ or RCR-");
        PppNegotiator x = withOldRequests(6);
        x.drop(1);
        x.drop(1);
        x.deliver(1);
        x.inject(1, PppNegotiator.CODE_CODE_REJ, 1);
        x.rotate(1);
        x.deliver(1);
        Check.peer("before", x, 0, PppNegotiator.INFO_STATE, 3, PppNegotiator.INFO_HIGH_CR, 2);
        x.setRange(0, PppNegotiator.OPT_COMP, 2, 4);
        x.setRange(0, PppNegotiator.OPT_MRU, 1, 0);
        Scene.empty(x, 0);
        int[] items = Check.items(x);
        Check.due("an old request", x.deliver(1), 1);
        Check.same("an old request: the same items", Check.items(x), items);
        Check.due("an old request: no response", x.wireSize(0), 0);
    }

    /** In state 3 a range set before counts from the request on: start comes before CLASSIFY. */
    private static void startInStopped() {
        Check.sentence(RECEPTION, "Else highCr = m.id; if the state is 3, start is done now; then"
            + " CLASSIFY gives RCR+ or RCR-");
        PppNegotiator x = Scene.in(3);
        x.setRange(0, PppNegotiator.OPT_MAGIC, 5, 9);
        x.setRange(0, PppNegotiator.OPT_COMP, 1, 0);
        x.setRange(1, PppNegotiator.OPT_MAGIC, 5, 9);
        Scene.requestOfPeer1(x, GOOD);
        x.deliver(1);
        Check.options("start", x, 0, PppNegotiator.OI_WANT, 1500, 0, 9, 0);
        Check.options("start", x, 0, PppNegotiator.OI_INCLUDED, 1, 0, 1, 0);
        Check.peer("start", x, 0, PppNegotiator.INFO_STATE, 6);
        Check.message("request", x, 0, 0, 1, 11, 0, 1500, -1, 9, -1);
        Check.message("reject", x, 0, 1, 4, 1, 0, -1, -1, -1, 15);

        x = Scene.in(3);
        x.setRange(0, PppNegotiator.OPT_MAGIC, 5, 9);
        x.setRange(1, PppNegotiator.OPT_MAGIC, 5, 9);
        Scene.requestOfPeer1(x, GOOD);
        x.deliver(1);
        Check.message("the magic of the new start", x, 0, 1, 3, 1, 0, -1, -1, 8, -1);
        Check.peer("the nak counts", x, 0, PppNegotiator.INFO_NAKS, 1);
    }

    /** What is wanted from this start on counts, not what an earlier request had asked for. */
    private static void onlyMagicInStopped() {
        Check.sentence("CLASSIFY", "Done by p using p's current range, want, included and naks.");
        PppNegotiator x = Scene.in(3);
        x.setRange(0, PppNegotiator.OPT_MAGIC, 9, 9);
        x.setRange(1, PppNegotiator.OPT_MAGIC, 9, 9);
        Scene.requestOfPeer1(x, GOOD);
        Check.options("the last request", x, 0, PppNegotiator.OI_SENT, 1500, -1, -1, 15);
        x.deliver(1);
        Check.message("the only magic there is", x, 0, 1, 3, 1, 0, -1, -1, 9, -1);
        Check.peer("the only magic there is", x, 0, PppNegotiator.INFO_STATE, 6,
            PppNegotiator.INFO_NAKS, 1);
    }

    /** In the other states a request begins nothing: what was adopted before stays. */
    private static void noStartElsewhere() {
        Check.sentence(RECEPTION, "if the state is 3, start is done now");
        for (int state : new int[] {2, 4, 5, 6, 8}) {
            PppNegotiator x = Scene.withAnswers();
            Scene.deliverCode(x, 1, PppNegotiator.CODE_CONF_REJ);
            Check.options("a Reject", x, 0, PppNegotiator.OI_INCLUDED, 1, 0, 0, 0);
            if (state <= 5) {
                x.close(0);
                if (state == 5) {
                    x.open(0);
                } else if (state == 2) {
                    Scene.ticks(x, Scene.MAX_TERMINATE * Scene.RESTART_TICKS);
                }
            } else if (state == 8) {
                x.up(1);
                Scene.deliverCode(x, 1, PppNegotiator.CODE_CONF_REQ);
                x.down(1);
            }
            Check.peer("before", x, 0, PppNegotiator.INFO_STATE, state);
            Scene.empty(x, 1);
            x.up(1);
            x.deliver(1);
            Check.options("state " + state, x, 0, PppNegotiator.OI_INCLUDED, 1, 0, 0, 0);
        }
    }

    /** Each response of a request, for a full wire and for one with room for one of two. */
    private static void fullWires() {
        int[] sends = {0, 0, 1, 2, 0, 0, 1, 1, 1, 2};
        for (int state = 2; state <= 9; state++) {
            for (int mru : new int[] {GOOD, BAD}) {
                int in = state;
                FullWire.loses("request for " + mru + " in state " + state, sends[state], () -> {
                    PppNegotiator x = Scene.in(in);
                    Scene.requestOfPeer1(x, mru);
                    return x;
                }, x -> x.deliver(1));
            }
        }
    }

    public static void main(String[] args) {
        everyState();
        quietStates();
        terminateAckInClosed(GOOD, false);
        terminateAckInClosed(BAD, false);
        terminateAckInClosed(GOOD, true);
        terminateAckInClosed(BAD, true);
        firstAndEqualIds();
        for (int state = 2; state <= 6; state++) {
            lowerIds(state);
        }
        noStartForAnOldOne();
        startInStopped();
        onlyMagicInStopped();
        noStartElsewhere();
        fullWires();
        Check.end();
    }
}
