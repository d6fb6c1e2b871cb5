/** Promise 7: the restart timer, TO+ and TO-. */
public final class P07TickTest {
    private static final String TICK = "if its state is 4..8 and timer > 0, timer is decreased by 1;"
        + " if the timer is now 0, the event TO+ happens if restart > 0, else TO-.";

    private static void statesWithoutTimer() {
        Check.sentence("Promise 7", "A peer outside 4..8, or with timer 0, is unchanged.");
        for (int state : new int[] {0, 1, 2, 3, 9}) {
            PppNegotiator x = state == 9 ? Scene.bothOpened() : Scene.in(state);
            int[] before = Check.everything(x);
            Scene.ticks(x, 10);
            Check.unchanged("ticks in state " + state, x, before);
        }
    }

    /** Two ticks only count down; the third one sends again. */
    private static void again(int state, int code, int next) {
        Check.sentence("Promise 7", TICK);
        PppNegotiator x = Scene.in(state);
        String what = "ticks in state " + state;
        int restart = x.peerInfo(0, PppNegotiator.INFO_RESTART);
        int nextId = x.peerInfo(0, PppNegotiator.INFO_NEXT_ID);
        int crId = x.peerInfo(0, PppNegotiator.INFO_CR_ID);
        for (int left = 2; left >= 1; left--) {
            int[] due = Check.everything(x);
            due[PppNegotiator.INFO_TIMER] = left;
            due[due.length / 2 + PppNegotiator.INFO_TIMER] = timerAfterTick(x, 1);
            x.tick();
            Check.unchanged(what + ", beside the timers,", x, due);
        }
        x.tick();
        Check.peer(what, x, 0, PppNegotiator.INFO_STATE, next, PppNegotiator.INFO_TIMER, 3,
            PppNegotiator.INFO_RESTART, restart - 1, PppNegotiator.INFO_NEXT_ID, nextId + 1,
            PppNegotiator.INFO_CR_ID, code == 1 ? nextId + 1 : crId);
        Check.due(what + ": sent", x.wireSize(0), 1);
        Check.due(what + ": code", x.wireInfo(0, 0, PppNegotiator.W_CODE), code);
        Check.due(what + ": id", x.wireInfo(0, 0, PppNegotiator.W_ID), nextId + 1);
    }

    private static int timerAfterTick(PppNegotiator x, int p) {
        int timer = x.peerInfo(p, PppNegotiator.INFO_TIMER);
        return timer == 0 ? 0 : timer - 1;
    }

    /** With restart run out, the next time-out gives up. */
    private static void giveUp(int state, int next) {
        Check.sentence("Promise 7", TICK);
        PppNegotiator x = Scene.in(state);
        String what = "giving up in state " + state;
        int tries = 0;
        while (x.peerInfo(0, PppNegotiator.INFO_RESTART) > 0 && tries < 20) {
            Scene.ticks(x, Scene.RESTART_TICKS);
            tries++;
        }
        Check.peer(what, x, 0, PppNegotiator.INFO_STATE, state, PppNegotiator.INFO_FINISHES, 0);
        Scene.empty(x, 0);
        int nextId = x.peerInfo(0, PppNegotiator.INFO_NEXT_ID);
        Scene.ticks(x, Scene.RESTART_TICKS - 1);
        Check.peer(what, x, 0, PppNegotiator.INFO_STATE, state);
        x.tick();
        Check.peer(what, x, 0, PppNegotiator.INFO_STATE, next, PppNegotiator.INFO_FINISHES, 1,
            PppNegotiator.INFO_TIMER, 0, PppNegotiator.INFO_NEXT_ID, nextId);
        Check.due(what + ": nothing sent", x.wireSize(0), 0);
    }

    /** The least of all: one request, one tick, and it is over. */
    private static void leastNumbers() {
        Check.sentence("Promise 7", TICK);
        PppNegotiator x = new PppNegotiator(1, 1, 1, 1);
        x.up(0);
        x.open(0);
        Check.peer("one request", x, 0, PppNegotiator.INFO_RESTART, 0, PppNegotiator.INFO_TIMER, 1);
        x.tick();
        Check.peer("one tick", x, 0, PppNegotiator.INFO_STATE, 3, PppNegotiator.INFO_FINISHES, 1,
            PppNegotiator.INFO_NEXT_ID, 1, PppNegotiator.INFO_TIMER, 0);
    }

    /** With restart 1 the time-out still sends; that request leaves 0. */
    private static void lastRequest() {
        Check.sentence("Promise 7", TICK);
        PppNegotiator x = new PppNegotiator(2, 1, 1, 1);
        x.up(0);
        x.open(0);
        Check.peer("first", x, 0, PppNegotiator.INFO_RESTART, 1);
        x.tick();
        Check.peer("last", x, 0, PppNegotiator.INFO_STATE, 6, PppNegotiator.INFO_RESTART, 0,
            PppNegotiator.INFO_NEXT_ID, 2, PppNegotiator.INFO_FINISHES, 0);
        x.tick();
        Check.peer("over", x, 0, PppNegotiator.INFO_STATE, 3, PppNegotiator.INFO_RESTART, 0,
            PppNegotiator.INFO_NEXT_ID, 2, PppNegotiator.INFO_FINISHES, 1);
    }

    /** After a Terminate-Request in state 9 nothing is sent any more, but the timer runs. */
    private static void zeroRestart() {
        Check.sentence("Actions of peer p", "zrc: restart = 0; timer = restartTicks.");
        PppNegotiator x = Scene.bothOpened();
        x.close(1);
        x.deliver(1);
        Check.peer("told to stop", x, 0, PppNegotiator.INFO_STATE, 5, PppNegotiator.INFO_RESTART, 0,
            PppNegotiator.INFO_TIMER, 3, PppNegotiator.INFO_FINISHES, 0);
        int sent = x.wireSize(0);
        Scene.ticks(x, 2);
        Check.peer("waiting", x, 0, PppNegotiator.INFO_STATE, 5, PppNegotiator.INFO_TIMER, 1);
        x.tick();
        Check.peer("stopped", x, 0, PppNegotiator.INFO_STATE, 3, PppNegotiator.INFO_FINISHES, 1);
        Check.due("nothing sent", x.wireSize(0), sent);
    }

    /** Both peers are served by one tick, each by its own timer. */
    private static void bothPeers() {
        Check.sentence("Promise 7", "For peer 0, then for peer 1");
        PppNegotiator x = Scene.fresh();
        x.up(0);
        x.open(0);
        x.tick();
        x.up(1);
        x.open(1);
        x.tick();
        Check.peer("first", x, 0, PppNegotiator.INFO_TIMER, 1);
        Check.peer("second", x, 1, PppNegotiator.INFO_TIMER, 2);
        x.tick();
        Check.peer("first", x, 0, PppNegotiator.INFO_TIMER, 3, PppNegotiator.INFO_NEXT_ID, 2);
        Check.peer("second", x, 1, PppNegotiator.INFO_TIMER, 1, PppNegotiator.INFO_NEXT_ID, 1);
        x.tick();
        Check.peer("first", x, 0, PppNegotiator.INFO_TIMER, 2, PppNegotiator.INFO_NEXT_ID, 2);
        Check.peer("second", x, 1, PppNegotiator.INFO_TIMER, 3, PppNegotiator.INFO_NEXT_ID, 2);
    }

    /** Both time out in one tick. */
    private static void bothAtOnce() {
        Check.sentence("Promise 7", "For peer 0, then for peer 1");
        PppNegotiator x = new PppNegotiator(2, 1, 1, 1);
        for (int p = 0; p < 2; p++) {
            x.up(p);
            x.open(p);
        }
        x.tick();
        for (int p = 0; p < 2; p++) {
            Check.peer("again", x, p, PppNegotiator.INFO_NEXT_ID, 2, PppNegotiator.INFO_RESTART, 0);
            Check.due("again", x.wireSize(p), 2);
        }
        x.tick();
        for (int p = 0; p < 2; p++) {
            Check.peer("over", x, p, PppNegotiator.INFO_STATE, 3, PppNegotiator.INFO_FINISHES, 1);
        }
    }

    public static void main(String[] args) {
        statesWithoutTimer();
        again(4, 5, 4);
        again(5, 5, 5);
        again(6, 1, 6);
        again(7, 1, 6);
        again(8, 1, 8);
        giveUp(4, 2);
        giveUp(5, 3);
        giveUp(6, 3);
        giveUp(8, 3);
        leastNumbers();
        lastRequest();
        zeroRestart();
        bothPeers();
        bothAtOnce();
        for (int state = 4; state <= 8; state++) {
            int in = state;
            FullWire.loses("ticks in state " + state, 1, () -> Scene.in(in),
                x -> Scene.ticks(x, Scene.RESTART_TICKS));
        }
        Check.end();
    }
}
