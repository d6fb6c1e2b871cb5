/** Promise 7: the timer stops where a state has none, and runs on where nothing sets it. */
public final class P07TimerTest {
    private static void stopped(String what, PppNegotiator x, int state) {
        Check.peer(what, x, 0, PppNegotiator.INFO_STATE, state, PppNegotiator.INFO_TIMER, 0);
        int[] items = Check.items(x);
        int half = items.length / 2;
        Scene.ticks(x, 2 * Scene.RESTART_TICKS);
        int[] after = Check.items(x);
        for (int i = 0; i < half; i++) {
            Check.due(what + ": item " + i + " after ticks", after[i], items[i]);
        }
    }

    private static void sentence() {
        Check.sentence("Actions of peer p",
            "After every event, if the peer's state is not 4..8, its timer = 0.");
    }

    private static PppNegotiator running(int state) {
        PppNegotiator x = Scene.in(state);
        Check.peer("the timer runs", x, 0, PppNegotiator.INFO_TIMER, Scene.RESTART_TICKS);
        return x;
    }

    private static void afterDown() {
        sentence();
        int[] next = {0, 0, 0, 0, 0, 1, 1, 1, 1};
        for (int state = 4; state <= 8; state++) {
            PppNegotiator x = running(state);
            x.down(0);
            stopped("down in state " + state, x, next[state]);
        }
    }

    private static void afterTerminateAck() {
        sentence();
        for (int state = 4; state <= 5; state++) {
            PppNegotiator x = Scene.carrying(PppNegotiator.CODE_TERM_ACK);
            Scene.bring(x, state);
            Scene.find(x, 1, PppNegotiator.CODE_TERM_ACK);
            Check.peer("the timer runs", x, 0, PppNegotiator.INFO_TIMER, Scene.RESTART_TICKS);
            x.deliver(1);
            stopped("terminate ack in state " + state, x, state - 2);
        }
    }

    private static void afterCodeReject() {
        sentence();
        for (int state = 4; state <= 8; state++) {
            PppNegotiator x = running(state);
            x.inject(1, PppNegotiator.CODE_CODE_REJ, 1);
            x.deliver(1);
            stopped("code reject in state " + state, x, state == 4 ? 2 : 3);
        }
    }

    private static void afterOpening() {
        sentence();
        PppNegotiator x = running(7);
        Scene.requestOfPeer1(x, 1500);
        x.deliver(1);
        stopped("a good request in state 7", x, 9);
        x = Scene.withAnswersIn(8);
        Check.peer("the timer runs", x, 0, PppNegotiator.INFO_TIMER, Scene.RESTART_TICKS);
        Scene.deliverCode(x, 1, PppNegotiator.CODE_CONF_ACK);
        stopped("an Ack in state 8", x, 9);
    }

    private static void afterTimeout() {
        sentence();
        for (int state : new int[] {4, 5, 6, 8}) {
            PppNegotiator x = running(state);
            Scene.ticks(x, Scene.MAX_CONFIGURE * Scene.RESTART_TICKS);
            stopped("time-outs in state " + state, x, state == 4 ? 2 : 3);
        }
    }

    /** One tick has passed; what neither sends a request nor leaves 4..8 lets the timer be. */
    private static void runsOn(String what, PppNegotiator x, int state) {
        Check.peer(what, x, 0, PppNegotiator.INFO_STATE, state,
            PppNegotiator.INFO_TIMER, Scene.RESTART_TICKS - 1);
    }

    private static void notSetAnew() {
        sentence();
        PppNegotiator x = Scene.in(4);
        x.tick();
        x.open(0);
        runsOn("open in state 4", x, 5);
        x.close(0);
        runsOn("close in state 5", x, 4);
        for (int mru : new int[] {1500, 2000}) {
            x = Scene.in(6);
            x.tick();
            Scene.requestOfPeer1(x, mru);
            x.deliver(1);
            runsOn("a request for " + mru + " in state 6", x, mru == 1500 ? 8 : 6);
        }
        x = Scene.withAnswersIn(6);
        x.tick();
        Scene.deliverCode(x, 1, PppNegotiator.CODE_CONF_ACK);
        runsOn("an Ack in state 6", x, 7);
        x.inject(1, PppNegotiator.CODE_CODE_REJ, 8);
        Scene.deliverCode(x, 1, PppNegotiator.CODE_CODE_REJ);
        runsOn("a code reject in state 7", x, 6);
    }

    private static void terminateRequestSetsNothing() {
        sentence();
        for (int state = 4; state <= 8; state++) {
            PppNegotiator x = Scene.in(state);
            x.tick();
            x.up(1);
            x.open(1);
            x.close(1);
            Scene.deliverCode(x, 1, PppNegotiator.CODE_TERM_REQ);
            runsOn("terminate request in state " + state, x, state <= 5 ? state : 6);
        }
    }

    public static void main(String[] args) {
        afterDown();
        afterTerminateAck();
        afterCodeReject();
        afterOpening();
        afterTimeout();
        notSetAnew();
        terminateRequestSetsNothing();
        Check.end();
    }
}
