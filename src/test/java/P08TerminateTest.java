/** Promise 8, codes 5 and 6: Terminate-Request and Terminate-Ack in every state of peer 0. */
public final class P08TerminateTest {
    private static void request(int state, int next) {
        PppNegotiator x = Scene.in(state);
        x.up(1);
        x.open(1);
        x.close(1);
        Scene.find(x, 1, PppNegotiator.CODE_TERM_REQ);
        int id = x.wireInfo(1, 0, PppNegotiator.W_ID);
        int timer = x.peerInfo(0, PppNegotiator.INFO_TIMER);
        int restart = x.peerInfo(0, PppNegotiator.INFO_RESTART);
        String what = "terminate request in state " + state;
        Check.due(what, x.deliver(1), 5);
        Check.peer(what, x, 0, PppNegotiator.INFO_STATE, next,
            PppNegotiator.INFO_TIMER, state == 9 ? 3 : timer,
            PppNegotiator.INFO_RESTART, state == 9 ? 0 : restart,
            PppNegotiator.INFO_DOWNS, state == 9 ? 1 : 0);
        Check.due(what + ": messages", x.wireSize(0), 1);
        Check.message(what, x, 0, 0, 6, id, 0, -1, -1, -1, -1);
    }

    /** A Terminate-Ack on wire 1, with both peers back in state 0. */
    private static PppNegotiator withTerminateAck() {
        PppNegotiator x = Scene.withoutMagic();
        x.up(0);
        x.open(0);
        x.up(1);
        x.deliver(0);
        x.down(0);
        x.close(0);
        x.down(1);
        Check.message("a terminate ack", x, 1, 0, 6, 1, 0, -1, -1, -1, -1);
        return x;
    }

    /** Its id is an old one by then, and does not matter. */
    private static void ack(int state, int next) {
        PppNegotiator x = withTerminateAck();
        Scene.bring(x, state);
        Check.peer("before", x, 0, PppNegotiator.INFO_STATE, state);
        Scene.empty(x, 0);
        Scene.find(x, 1, PppNegotiator.CODE_TERM_ACK);
        int finishes = x.peerInfo(0, PppNegotiator.INFO_FINISHES);
        int nextId = x.peerInfo(0, PppNegotiator.INFO_NEXT_ID);
        int timer = x.peerInfo(0, PppNegotiator.INFO_TIMER);
        int restart = x.peerInfo(0, PppNegotiator.INFO_RESTART);
        boolean finish = state == 4 || state == 5;
        boolean again = state == 9;
        String what = "terminate ack in state " + state;
        Check.due(what, x.deliver(1), 6);
        Check.peer(what, x, 0, PppNegotiator.INFO_STATE, next,
            PppNegotiator.INFO_FINISHES, finishes + (finish ? 1 : 0),
            PppNegotiator.INFO_DOWNS, again ? 1 : 0,
            PppNegotiator.INFO_NEXT_ID, nextId + (again ? 1 : 0),
            PppNegotiator.INFO_TIMER, again ? 3 : finish ? 0 : timer,
            PppNegotiator.INFO_RESTART, restart - (again ? 1 : 0));
        Check.due(what + ": messages", x.wireSize(0), again ? 1 : 0);
        if (again) {
            Check.message(what, x, 0, 0, 1, nextId + 1, 0, 1500, -1, -1, 15);
        }
    }

    public static void main(String[] args) {
        int[] afterRequest = {0, 0, 2, 3, 4, 5, 6, 6, 6, 5};
        int[] afterAck = {0, 1, 2, 3, 2, 3, 6, 6, 8, 6};
        for (int state = 2; state <= 9; state++) {
            request(state, afterRequest[state]);
        }
        for (int state = 0; state <= 9; state++) {
            ack(state, afterAck[state]);
        }
        Check.end();
    }
}
