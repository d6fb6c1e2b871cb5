/** Promise 5: the event Up, and where it is refused. */
public final class P05UpTest {
    private static final String REFUSED = "Answers false and changes nothing if peer is not 0 or 1"
        + " or the event is refused in the peer's state (2..9).";
    private static final String HAPPENS = "Otherwise the event Up happens and the answer is true.";

    private static void noSuchPeer() {
        Check.sentence("Promise 5", REFUSED);
        for (int peer : Check.outside(0, 1)) {
            PppNegotiator x = Scene.fresh();
            int[] before = Check.everything(x);
            Check.refused("up(" + peer + ")", x, x.up(peer), before);
            x.open(0);
            x.open(1);
            before = Check.everything(x);
            Check.refused("up(" + peer + ") where it would send", x, x.up(peer), before);
        }
    }

    private static void refusedStates() {
        Check.sentence("Promise 5", REFUSED);
        for (int state = 2; state <= 9; state++) {
            PppNegotiator x = Scene.in(state);
            int[] before = Check.everything(x);
            Check.refused("up in state " + state, x, x.up(0), before);
        }
    }

    private static void initial() {
        Check.sentence("Promise 5", HAPPENS);
        for (int p = 0; p < 2; p++) {
            PppNegotiator x = Scene.fresh();
            int[] due = Check.everything(x);
            due[p * due.length / 2 + PppNegotiator.INFO_STATE] = 2;
            Check.due("up in state 0", x.up(p), true);
            Check.unchanged("up in state 0, beside the state,", x, due);
        }
    }

    private static void starting() {
        Check.sentence("Promise 5", HAPPENS);
        PppNegotiator x = Scene.in(1);
        x.setRange(0, PppNegotiator.OPT_COMP, 3, 5);
        Check.due("up in state 1", x.up(0), true);
        Check.peer("up in state 1", x, 0, PppNegotiator.INFO_STATE, 6,
            PppNegotiator.INFO_RESTART, 9, PppNegotiator.INFO_TIMER, 3,
            PppNegotiator.INFO_NEXT_ID, 1, PppNegotiator.INFO_CR_ID, 1);
        Check.options("up in state 1", x, 0, PppNegotiator.OI_WANT, 1500, 0, 0, 5);
        Check.options("up in state 1", x, 0, PppNegotiator.OI_INCLUDED, 1, 0, 0, 1);
        Check.message("up in state 1", x, 0, 0, 1, 1, 0, 1500, -1, -1, 5);
    }

    /** A negotiation begins with no naks counted and every option asked for again. */
    private static void startForgets() {
        Check.sentence("Actions of peer p",
            "start: for each option want = hi and included = (lo <= hi); then naks = 0.");
        PppNegotiator x = Scene.fresh();
        x.setRange(1, PppNegotiator.OPT_COMP, 1, 0);
        x.setRange(0, PppNegotiator.OPT_MRU, 64, 1000);
        for (int p = 0; p < 2; p++) {
            x.up(p);
            x.open(p);
        }
        x.deliver(1);
        Check.peer("after a Nak", x, 0, PppNegotiator.INFO_NAKS, 1);
        x.deliver(0);
        x.deliver(1);
        Check.options("after a Reject", x, 0, PppNegotiator.OI_INCLUDED, 1, 0, 1, 0);
        x.down(0);
        Check.peer("down keeps", x, 0, PppNegotiator.INFO_NAKS, 1);
        Check.options("down keeps", x, 0, PppNegotiator.OI_INCLUDED, 1, 0, 1, 0);
        x.up(0);
        Check.peer("up forgets", x, 0, PppNegotiator.INFO_NAKS, 0);
        Check.options("up forgets", x, 0, PppNegotiator.OI_INCLUDED, 1, 0, 1, 1);
    }

    /** A range of one value is not empty; one less is. */
    private static void startAtTheEdges() {
        Check.sentence("Actions of peer p",
            "start: for each option want = hi and included = (lo <= hi); then naks = 0.");
        PppNegotiator x = Scene.fresh();
        x.open(0);
        x.setRange(0, PppNegotiator.OPT_MRU, 0, 0);
        x.setRange(0, PppNegotiator.OPT_AUTH, 65535, 65535);
        x.setRange(0, PppNegotiator.OPT_MAGIC, 65535, 65534);
        x.setRange(0, PppNegotiator.OPT_COMP, 1, 0);
        x.up(0);
        Check.options("want", x, 0, PppNegotiator.OI_WANT, 0, 65535, 65534, 0);
        Check.options("included", x, 0, PppNegotiator.OI_INCLUDED, 1, 1, 0, 0);
        Check.options("sent", x, 0, PppNegotiator.OI_SENT, 0, 65535, -1, -1);
        Check.message("request", x, 0, 0, 1, 1, 0, 0, 65535, -1, -1);
    }

    public static void main(String[] args) {
        noSuchPeer();
        refusedStates();
        initial();
        starting();
        startForgets();
        startAtTheEdges();
        FullWire.loses("up in state 1", 1, () -> Scene.in(1), x -> x.up(0));
        Check.end();
    }
}
