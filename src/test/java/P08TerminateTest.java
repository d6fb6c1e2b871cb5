/** Promise 8, codes 5 and 6: Terminate-Request and Terminate-Ack in every state of peer 0. */
public final class P08TerminateTest {
    /** Beside what is due no item changes. */
    private static void request(int state, int next) {
        Check.sentence("Transitions",
            "RTR: 2..6: sta; 7, 8: sta -> 6; 9: tld, zrc, sta -> 5.");
        PppNegotiator x = withTerminateRequest(state);
        int id = x.wireInfo(1, 0, PppNegotiator.W_ID);
        int[] due = Check.items(x);
        due[PppNegotiator.INFO_STATE] = next;
        if (state == 9) {
            due[PppNegotiator.INFO_TIMER] = 3;
            due[PppNegotiator.INFO_RESTART] = 0;
            due[PppNegotiator.INFO_DOWNS]++;
        }
        String what = "terminate request in state " + state;
        Check.due(what, x.deliver(1), 5);
        Check.same(what + ": the items due", Check.items(x), due);
        Check.due(what + ": messages", x.wireSize(0), 1);
        Check.message(what, x, 0, 0, 6, id, 0, -1, -1, -1, -1);
    }

    private static PppNegotiator withTerminateRequest(int state) {
        PppNegotiator x = Scene.in(state);
        x.up(1);
        x.open(1);
        x.close(1);
        Scene.find(x, 1, PppNegotiator.CODE_TERM_REQ);
        return x;
    }

    private static PppNegotiator withTerminateAck(int state) {
        PppNegotiator x = Scene.carrying(PppNegotiator.CODE_TERM_ACK);
        Scene.bring(x, state);
        Check.peer("before", x, 0, PppNegotiator.INFO_STATE, state);
        Scene.empty(x, 0);
        Scene.find(x, 1, PppNegotiator.CODE_TERM_ACK);
        return x;
    }

    /** Its id is an old one by then, and does not matter. */
    private static void ack(int state, int next) {
        Check.sentence("RECEPTION of message m by peer p", "6: RTA (any id).");
        PppNegotiator x = withTerminateAck(state);
        int nextId = x.peerInfo(0, PppNegotiator.INFO_NEXT_ID);
        int[] due = Check.items(x);
        due[PppNegotiator.INFO_STATE] = next;
        boolean finish = state == 4 || state == 5;
        boolean again = state == 9;
        if (finish) {
            due[PppNegotiator.INFO_FINISHES]++;
            due[PppNegotiator.INFO_TIMER] = 0;
        } else if (again) {
            due[PppNegotiator.INFO_DOWNS]++;
            due[PppNegotiator.INFO_NEXT_ID]++;
            due[PppNegotiator.INFO_CR_ID] = nextId + 1;
            due[PppNegotiator.INFO_RESTART]--;
            due[PppNegotiator.INFO_TIMER] = 3;
        }
        String what = "terminate ack in state " + state;
        Check.due(what, x.deliver(1), 6);
        Check.same(what + ": the items due", Check.items(x), due);
        Check.due(what + ": messages", x.wireSize(0), again ? 1 : 0);
        if (again) {
            Check.message(what, x, 0, 0, 1, nextId + 1, 0, 1500, -1, -1, 15);
        }
    }

    /** The Terminate-Ack that answers the very request: its id is the last one taken. */
    private static void ackOfTheRequest() {
        Check.sentence("RECEPTION of message m by peer p", "6: RTA (any id).");
        PppNegotiator x = Scene.bothOpened();
        x.close(0);
        x.deliver(0);
        Check.message("the ack", x, 1, 0, 6, 2, 0, -1, -1, -1, -1);
        x.deliver(1);
        Check.peer("closed", x, 0, PppNegotiator.INFO_STATE, 2, PppNegotiator.INFO_FINISHES, 1,
            PppNegotiator.INFO_TIMER, 0, PppNegotiator.INFO_RESTART, 1);
    }

    private static void fullWires() {
        for (int state = 2; state <= 9; state++) {
            int in = state;
            FullWire.loses("terminate request in state " + state, 1,
                () -> withTerminateRequest(in), x -> x.deliver(1));
        }
        FullWire.loses("terminate ack in state 9", 1, () -> withTerminateAck(9), x -> x.deliver(1));
    }

    public static void main(String[] args) {
        int[] afterRequest = {0, 0, 2, 3, 4, 5, 6, 6, 6, 5};
        int[] afterAck = {0, 1, 2, 3, 2, 3, 6, 6, 8, 6};
        for (int state = 2; state <= 9; state++) {
            request(state, afterRequest[state]);
        }
        for (int state = 0; state <= 9; state++) {
            ack(state, afterAck[state]);
        }
        ackOfTheRequest();
        fullWires();
        Check.end();
    }
}
