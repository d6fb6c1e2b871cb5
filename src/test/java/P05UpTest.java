/** Promise 5: the event Up, and where it is refused. */
public final class P05UpTest {
    private static void refusals() {
        for (int peer : new int[] {Integer.MIN_VALUE, -1, 2, Integer.MAX_VALUE}) {
            PppNegotiator x = Scene.fresh();
            int[] before = Check.everything(x);
            Check.refused("up(" + peer + ")", x, x.up(peer), before);
        }
        for (int state = 2; state <= 9; state++) {
            PppNegotiator x = Scene.in(state);
            int[] before = Check.everything(x);
            Check.refused("up in state " + state, x, x.up(0), before);
        }
    }

    private static void initial() {
        PppNegotiator x = Scene.fresh();
        Check.due("up in state 0", x.up(0), true);
        Check.peer("up in state 0", x, 0, PppNegotiator.INFO_STATE, 2,
            PppNegotiator.INFO_RESTART, 0, PppNegotiator.INFO_TIMER, 0);
        Check.due("up in state 0: messages", x.wireSize(0), 0);
    }

    private static void starting() {
        PppNegotiator x = Scene.in(1);
        x.setRange(0, PppNegotiator.OPT_COMP, 3, 5);
        Check.due("up in state 1", x.up(0), true);
        Check.peer("up in state 1", x, 0, PppNegotiator.INFO_STATE, 6,
            PppNegotiator.INFO_RESTART, 9, PppNegotiator.INFO_TIMER, 3,
            PppNegotiator.INFO_NEXT_ID, 1, PppNegotiator.INFO_CR_ID, 1);
        Check.options("up in state 1", x, 0, PppNegotiator.OI_WANT, 1500, 0, 0, 5);
        Check.options("up in state 1", x, 0, PppNegotiator.OI_INCLUDED, 1, 0, 0, 1);
        Check.message("up in state 1", x, 0, 0, 1, 1, 0, 1500, -1, -1, 5);
    }

    /** A negotiation begins with no naks counted and every option asked for again. */
    private static void startForgets() {
        PppNegotiator x = Scene.fresh();
        x.setRange(1, PppNegotiator.OPT_COMP, 1, 0);
        x.setRange(0, PppNegotiator.OPT_MRU, 64, 1000);
        for (int p = 0; p < 2; p++) {
            x.up(p);
            x.open(p);
        }
        x.deliver(1);
        Check.peer("after a Nak", x, 0, PppNegotiator.INFO_NAKS, 1);
        x.deliver(0);
        x.deliver(1);
        Check.options("after a Reject", x, 0, PppNegotiator.OI_INCLUDED, 1, 0, 1, 0);
        x.down(0);
        Check.peer("down keeps", x, 0, PppNegotiator.INFO_NAKS, 1);
        x.up(0);
        Check.peer("up forgets", x, 0, PppNegotiator.INFO_NAKS, 0);
        Check.options("up forgets", x, 0, PppNegotiator.OI_INCLUDED, 1, 0, 1, 1);
    }

    public static void main(String[] args) {
        refusals();
        initial();
        starting();
        startForgets();
        Check.end();
    }
}
