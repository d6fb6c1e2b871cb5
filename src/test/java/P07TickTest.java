import java.util.Arrays;

/** Promise 7: the restart timer, TO+ and TO-. */
public final class P07TickTest {
    private static void statesWithoutTimer() {
        for (int state : new int[] {0, 1, 2, 3, 9}) {
            PppNegotiator x = state == 9 ? Scene.bothOpened() : Scene.in(state);
            int[] before = Check.everything(x);
            Scene.ticks(x, 10);
            Check.unchanged("ticks in state " + state, x, before);
        }
    }

    /** Two ticks only count down; the third one sends again. */
    private static void again(int state, int code, int next) {
        PppNegotiator x = Scene.in(state);
        String what = "ticks in state " + state;
        int restart = x.peerInfo(0, PppNegotiator.INFO_RESTART);
        int nextId = x.peerInfo(0, PppNegotiator.INFO_NEXT_ID);
        for (int left = 2; left >= 1; left--) {
            x.tick();
            Check.peer(what, x, 0, PppNegotiator.INFO_TIMER, left, PppNegotiator.INFO_STATE, state);
            Check.due(what + ": nothing sent", x.wireSize(0), 0);
        }
        x.tick();
        Check.peer(what, x, 0, PppNegotiator.INFO_STATE, next, PppNegotiator.INFO_TIMER, 3,
            PppNegotiator.INFO_RESTART, restart - 1, PppNegotiator.INFO_NEXT_ID, nextId + 1,
            PppNegotiator.INFO_CR_ID, code == 1 ? nextId + 1 : x.peerInfo(0, PppNegotiator.INFO_CR_ID));
        Check.due(what + ": sent", x.wireSize(0), 1);
        Check.due(what + ": code", x.wireInfo(0, 0, PppNegotiator.W_CODE), code);
        Check.due(what + ": id", x.wireInfo(0, 0, PppNegotiator.W_ID), nextId + 1);
    }

    /** With restart run out, the next time-out gives up. */
    private static void giveUp(int state, int next) {
        PppNegotiator x = Scene.in(state);
        String what = "giving up in state " + state;
        int tries = 0;
        while (x.peerInfo(0, PppNegotiator.INFO_RESTART) > 0 && tries < 20) {
            Scene.ticks(x, Scene.RESTART_TICKS);
            tries++;
        }
        Check.peer(what, x, 0, PppNegotiator.INFO_STATE, state, PppNegotiator.INFO_FINISHES, 0);
        Scene.empty(x, 0);
        int nextId = x.peerInfo(0, PppNegotiator.INFO_NEXT_ID);
        Scene.ticks(x, Scene.RESTART_TICKS - 1);
        Check.peer(what, x, 0, PppNegotiator.INFO_STATE, state);
        x.tick();
        Check.peer(what, x, 0, PppNegotiator.INFO_STATE, next, PppNegotiator.INFO_FINISHES, 1,
            PppNegotiator.INFO_TIMER, 0, PppNegotiator.INFO_NEXT_ID, nextId);
        Check.due(what + ": nothing sent", x.wireSize(0), 0);
    }

    /** Both peers are served by one tick, each by its own timer. */
    private static void bothPeers() {
        PppNegotiator x = Scene.fresh();
        x.up(0);
        x.open(0);
        x.tick();
        x.up(1);
        x.open(1);
        x.tick();
        Check.peer("first", x, 0, PppNegotiator.INFO_TIMER, 1);
        Check.peer("second", x, 1, PppNegotiator.INFO_TIMER, 2);
        x.tick();
        Check.peer("first", x, 0, PppNegotiator.INFO_TIMER, 3, PppNegotiator.INFO_NEXT_ID, 2);
        Check.peer("second", x, 1, PppNegotiator.INFO_TIMER, 1, PppNegotiator.INFO_NEXT_ID, 1);
    }

    /** A full wire loses the message, but the peer counts it as sent. */
    private static void fullWire() {
        PppNegotiator x = Scene.in(6);
        Scene.fill(x, 0);
        int[] before = Check.everything(x);
        Scene.ticks(x, 3);
        Check.peer("full wire", x, 0, PppNegotiator.INFO_RESTART, 8, PppNegotiator.INFO_TIMER, 3,
            PppNegotiator.INFO_NEXT_ID, 2, PppNegotiator.INFO_CR_ID, 2);
        int[] after = Check.everything(x);
        int wire = 13 + 4 * 7;
        Check.due("full wire: the wire is as it was", Arrays.equals(
            Arrays.copyOfRange(before, wire, before.length),
            Arrays.copyOfRange(after, wire, after.length)), true);
    }

    public static void main(String[] args) {
        statesWithoutTimer();
        again(4, 5, 4);
        again(5, 5, 5);
        again(6, 1, 6);
        again(7, 1, 6);
        again(8, 1, 8);
        giveUp(4, 2);
        giveUp(5, 3);
        giveUp(6, 3);
        giveUp(8, 3);
        bothPeers();
        fullWire();
        Check.end();
    }
}
