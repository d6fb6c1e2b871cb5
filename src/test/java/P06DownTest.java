/** Promise 6: the event Down, and where it is refused. */
public final class P06DownTest {
    private static void refusals() {
        for (int peer : new int[] {Integer.MIN_VALUE, -1, 2, Integer.MAX_VALUE}) {
            PppNegotiator x = Scene.in(9);
            int[] before = Check.everything(x);
            Check.refused("down(" + peer + ")", x, x.down(peer), before);
        }
        for (int state = 0; state <= 1; state++) {
            PppNegotiator x = Scene.in(state);
            int[] before = Check.everything(x);
            Check.refused("down in state " + state, x, x.down(0), before);
        }
    }

    /** Beside state, timer, starts and downs nothing changes; the wires least of all. */
    private static void listed(int state, int next, int starts, int downs) {
        PppNegotiator x = Scene.in(state);
        x.inject(0, 8, 5);
        x.inject(1, 12, 6);
        int[] due = Check.everything(x);
        due[PppNegotiator.INFO_STATE] = next;
        due[PppNegotiator.INFO_TIMER] = 0;
        due[PppNegotiator.INFO_STARTS] += starts;
        due[PppNegotiator.INFO_DOWNS] += downs;
        Check.due("down in state " + state, x.down(0), true);
        Check.unchanged("down in state " + state + ", beside what is due,", x, due);
    }

    public static void main(String[] args) {
        refusals();
        int[] next = {0, 0, 0, 1, 0, 1, 1, 1, 1, 1};
        for (int state = 2; state <= 9; state++) {
            listed(state, next[state], state == 3 ? 1 : 0, state == 9 ? 1 : 0);
        }
        Check.end();
    }
}
