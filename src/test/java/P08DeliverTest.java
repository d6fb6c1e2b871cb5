/** Promise 8: deliver itself, and RECEPTION by code and state of the receiver, peer 0. */
public final class P08DeliverTest {
    private static void wrongInputs() {
        PppNegotiator x = Scene.in(9);
        Scene.fill(x, 0);
        int[] before = Check.everything(x);
        for (int dir : new int[] {Integer.MIN_VALUE, -1, 1, 2, Integer.MAX_VALUE}) {
            Check.due("deliver(" + dir + ")", x.deliver(dir), -1);
            Check.unchanged("deliver(" + dir + ")", x, before);
        }
    }

    /** In states 0 and 1 every message is discarded, and its code answered all the same. */
    private static void discarded() {
        for (int state = 0; state <= 1; state++) {
            for (int code : new int[] {Integer.MIN_VALUE, -1, 0, 7, 8, 11, 12, Integer.MAX_VALUE}) {
                PppNegotiator x = Scene.in(state);
                int[] before = Check.everything(x);
                x.inject(1, code, 1);
                Check.due("deliver in state " + state, x.deliver(1), code);
                Check.unchanged("deliver of code " + code + " in state " + state, x, before);
            }
            PppNegotiator x = Scene.in(state);
            x.up(1);
            x.open(1);
            Check.due("deliver of a request", x.deliver(1), 1);
            Check.peer("discarded request", x, 0, PppNegotiator.INFO_HIGH_CR, 0,
                PppNegotiator.INFO_STATE, state);
            Check.due("discarded request: no answer", x.wireSize(0), 0);
        }
    }

    private static void unknownCode() {
        for (int state = 2; state <= 9; state++) {
            for (int code : new int[] {Integer.MIN_VALUE, -1, 0, 8, 12, Integer.MAX_VALUE}) {
                PppNegotiator x = Scene.in(state);
                int id = x.peerInfo(0, PppNegotiator.INFO_NEXT_ID) + 1;
                x.inject(1, code, 99);
                String what = "code " + code + " in state " + state;
                Check.due(what, x.deliver(1), code);
                Check.peer(what, x, 0, PppNegotiator.INFO_STATE, state, PppNegotiator.INFO_NEXT_ID, id);
                Check.due(what + ": messages", x.wireSize(0), 1);
                Check.message(what, x, 0, 0, 7, id, code, -1, -1, -1, -1);
            }
        }
    }

    private static void discardCode() {
        for (int state = 2; state <= 9; state++) {
            PppNegotiator x = Scene.in(state);
            int[] before = Check.everything(x);
            x.inject(1, PppNegotiator.CODE_DISCARD, 1);
            Check.due("discard", x.deliver(1), 11);
            Check.unchanged("discard in state " + state, x, before);
        }
    }

    /** RXJ-, by the state before: the state after; RXJ+ only turns 7 into 6. */
    private static void codeReject() {
        int[] after = {0, 0, 2, 3, 2, 3, 3, 3, 3, 5};
        int[] data = {Integer.MIN_VALUE, -1, 0, 1, 2, 6, 7, 8, 9, Integer.MAX_VALUE};
        for (int state = 2; state <= 9; state++) {
            for (int rejected : data) {
                boolean grave = rejected >= 1 && rejected <= 7;
                PppNegotiator x = Scene.in(state);
                int finishes = x.peerInfo(0, PppNegotiator.INFO_FINISHES);
                int timer = x.peerInfo(0, PppNegotiator.INFO_TIMER);
                x.inject(1, PppNegotiator.CODE_CODE_REJ, rejected);
                Check.due("code reject", x.deliver(1), 7);
                String what = "reject of code " + rejected + " in state " + state;
                boolean finish = grave && state != 9;
                boolean request = grave && state == 9;
                int next = grave ? after[state] : state == 7 ? 6 : state;
                Check.peer(what, x, 0, PppNegotiator.INFO_STATE, next,
                    PppNegotiator.INFO_FINISHES, finishes + (finish ? 1 : 0),
                    PppNegotiator.INFO_DOWNS, request ? 1 : 0,
                    PppNegotiator.INFO_TIMER, request ? 3 : finish ? 0 : timer);
                Check.due(what + ": messages", x.wireSize(0), request ? 1 : 0);
                if (request) {
                    Check.peer(what, x, 0, PppNegotiator.INFO_RESTART, 1);
                    Check.message(what, x, 0, 0, 5, 2, 0, -1, -1, -1, -1);
                }
            }
        }
    }

    /** Only the head leaves, and the answer goes to the receiver's own wire. */
    private static void oneAtATime() {
        PppNegotiator x = Scene.in(2);
        x.inject(1, 20, 1);
        x.inject(1, 21, 2);
        x.inject(1, 22, 3);
        Check.due("first", x.deliver(1), 20);
        Check.due("left", x.wireSize(1), 2);
        Check.message("left", x, 1, 0, 21, 0, 2, -1, -1, -1, -1);
        Check.message("left", x, 1, 1, 22, 0, 3, -1, -1, -1, -1);
        Check.due("answered", x.wireSize(0), 1);
        Check.due("second", x.deliver(1), 21);
        Check.due("third", x.deliver(1), 22);
        Check.due("no more", x.deliver(1), -1);
    }

    /** The other direction: peer 1 receives, and answers on wire 1. */
    private static void towardsPeer1() {
        PppNegotiator x = Scene.fresh();
        x.up(1);
        x.inject(0, 8, 0);
        Check.due("deliver(0)", x.deliver(0), 8);
        Check.due("answered on wire 1", x.wireSize(1), 1);
        Check.message("answered on wire 1", x, 1, 0, 7, 1, 8, -1, -1, -1, -1);
        Check.due("nothing on wire 0", x.wireSize(0), 0);
        Check.peer("peer 0", x, 0, PppNegotiator.INFO_NEXT_ID, 0);
    }

    /** An answer that finds the wire full is lost, but counts as sent. */
    private static void fullWire() {
        PppNegotiator x = Scene.in(2);
        Scene.fill(x, 0);
        x.inject(1, 8, 0);
        Check.due("deliver", x.deliver(1), 8);
        Check.peer("lost answer", x, 0, PppNegotiator.INFO_NEXT_ID, 1);
        Check.due("lost answer", x.wireSize(0), 8);
        Check.message("lost answer", x, 0, 7, 11, 0, 0, -1, -1, -1, -1);
    }

    public static void main(String[] args) {
        wrongInputs();
        discarded();
        unknownCode();
        discardCode();
        codeReject();
        oneAtATime();
        towardsPeer1();
        fullWire();
        Check.end();
    }
}
