/** Promise 4: the event Close in every state. */
public final class P04CloseTest {
    private static final String HAPPENS = "Otherwise the event Close happens on the peer as the"
        + " transitions say and the answer is true.";

    private static void noSuchPeer() {
        Check.sentence("Promise 4", "Answers false and changes nothing if peer is not 0 or 1.");
        for (int peer : Check.outside(0, 1)) {
            PppNegotiator x = Scene.busy();
            int[] before = Check.everything(x);
            Check.refused("close(" + peer + ")", x, x.close(peer), before);
        }
    }

    private static void statesNotListed() {
        Check.sentence("Promise 4", HAPPENS);
        for (int state : new int[] {0, 2, 4}) {
            PppNegotiator x = Scene.in(state);
            int[] before = Check.everything(x);
            Check.due("close in state " + state, x.close(0), true);
            Check.unchanged("close in state " + state, x, before);
        }
    }

    /** State, new state, finishes counted, whether a Terminate-Request goes out, downs counted. */
    private static void listed(int state, int next, int finishes, boolean request, int downs) {
        Check.sentence("Promise 4", HAPPENS);
        PppNegotiator x = Scene.in(state);
        int nextId = x.peerInfo(0, PppNegotiator.INFO_NEXT_ID);
        int finished = x.peerInfo(0, PppNegotiator.INFO_FINISHES);
        String what = "close in state " + state;
        Check.due(what, x.close(0), true);
        Check.peer(what, x, 0, PppNegotiator.INFO_STATE, next,
            PppNegotiator.INFO_FINISHES, finished + finishes, PppNegotiator.INFO_DOWNS, downs);
        if (request) {
            Check.peer(what, x, 0, PppNegotiator.INFO_RESTART, 1, PppNegotiator.INFO_TIMER, 3,
                PppNegotiator.INFO_NEXT_ID, nextId + 1);
            Check.due(what + ": messages", x.wireSize(0), 1);
            Check.message(what, x, 0, 0, 5, nextId + 1, 0, -1, -1, -1, -1);
        } else {
            Check.peer(what, x, 0, PppNegotiator.INFO_NEXT_ID, nextId);
            Check.due(what + ": messages", x.wireSize(0), 0);
        }
    }

    /** A Terminate-Request takes an id, but is no Configure-Request: crId and sent stay. */
    private static void requestStays() {
        Check.sentence("Peer items", "crId (id of its last Configure-Request, 0 = none)");
        PppNegotiator x = Scene.in(6);
        x.close(0);
        Check.peer("close in state 6", x, 0, PppNegotiator.INFO_CR_ID, 1, PppNegotiator.INFO_NEXT_ID, 2);
        Check.options("close in state 6", x, 0, PppNegotiator.OI_SENT, 1500, -1, -1, 15);
    }

    public static void main(String[] args) {
        noSuchPeer();
        statesNotListed();
        listed(1, 0, 1, false, 0);
        listed(3, 2, 0, false, 0);
        listed(5, 4, 0, false, 0);
        listed(6, 4, 0, true, 0);
        listed(7, 4, 0, true, 0);
        listed(8, 4, 0, true, 0);
        listed(9, 4, 0, true, 1);
        requestStays();
        for (int state = 6; state <= 9; state++) {
            int from = state;
            FullWire.loses("close in state " + state, 1, () -> Scene.in(from), x -> x.close(0));
        }
        Check.end();
    }
}
