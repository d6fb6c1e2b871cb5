/** Promise 6: the event Down, and where it is refused. */
public final class P06DownTest {
    private static final String REFUSED = "Answers false and changes nothing if peer is not 0 or 1"
        + " or the event is refused in the peer's state (0 or 1).";

    private static void noSuchPeer() {
        Check.sentence("Promise 6", REFUSED);
        for (int peer : Check.outside(0, 1)) {
            PppNegotiator x = Scene.busy();
            int[] before = Check.everything(x);
            Check.refused("down(" + peer + ")", x, x.down(peer), before);
        }
    }

    private static void refusedStates() {
        Check.sentence("Promise 6", REFUSED);
        for (int state = 0; state <= 1; state++) {
            PppNegotiator x = Scene.in(state);
            int[] before = Check.everything(x);
            Check.refused("down in state " + state, x, x.down(0), before);
        }
    }

    /** Beside state, timer, starts and downs nothing changes. */
    private static void listed(int state, int next, int starts, int downs) {
        Check.sentence("Promise 6", "Otherwise the event Down happens and the answer is true.");
        PppNegotiator x = Scene.in(state);
        int[] due = Check.everything(x);
        due[PppNegotiator.INFO_STATE] = next;
        due[PppNegotiator.INFO_TIMER] = 0;
        due[PppNegotiator.INFO_STARTS] += starts;
        due[PppNegotiator.INFO_DOWNS] += downs;
        Check.due("down in state " + state, x.down(0), true);
        Check.unchanged("down in state " + state + ", beside what is due,", x, due);
    }

    /** With one message on each wire, and with full ones. */
    private static void wiresStay(int state) {
        Check.sentence("Promise 6", "Wires are not touched.");
        PppNegotiator x = Scene.in(state);
        x.inject(0, 8, 5);
        x.inject(1, 12, 6);
        downLeavesWires(x, "down in state " + state);
        x = Scene.in(state);
        Scene.fill(x, 0);
        Scene.fill(x, 1);
        downLeavesWires(x, "down in state " + state + " between full wires");
    }

    private static void downLeavesWires(PppNegotiator x, String what) {
        int[] wire0 = Check.wire(x, 0);
        int[] wire1 = Check.wire(x, 1);
        Check.due(what, x.down(0), true);
        Check.same(what + ": wire 0 as before", Check.wire(x, 0), wire0);
        Check.same(what + ": wire 1 as before", Check.wire(x, 1), wire1);
    }

    public static void main(String[] args) {
        noSuchPeer();
        refusedStates();
        int[] next = {0, 0, 0, 1, 0, 1, 1, 1, 1, 1};
        for (int state = 2; state <= 9; state++) {
            listed(state, next[state], state == 3 ? 1 : 0, state == 9 ? 1 : 0);
            wiresStay(state);
        }
        Check.end();
    }
}
