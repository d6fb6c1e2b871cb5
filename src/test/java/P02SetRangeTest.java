/** Promise 2: where a range may be set, how it is clamped, and what stays as it was. */
public final class P02SetRangeTest {
    private static final String REFUSED = "Refused (answer false, nothing changes) if peer is not"
        + " 0 or 1, opt is not 0..3, or the peer's state is 4..9.";
    private static final String CLAMPED = "Otherwise lo and hi are each clamped into 0..VALUE_MAX"
        + " and become the peer's range for opt, even when lo > hi (an empty range); the answer is"
        + " true.";
    private static final String NOTHING_ELSE =
        "Nothing else changes: want and included stay as they are.";

    private static void noSuchPeer() {
        Check.sentence("Promise 2", REFUSED);
        PppNegotiator x = Scene.fresh();
        int[] before = Check.everything(x);
        for (int peer : Check.outside(0, 1)) {
            for (int opt = 0; opt < 4; opt++) {
                Check.refused("setRange of peer " + peer, x, x.setRange(peer, opt, 1, 2), before);
            }
        }
    }

    private static void noSuchOption() {
        Check.sentence("Promise 2", REFUSED);
        PppNegotiator x = Scene.fresh();
        int[] before = Check.everything(x);
        for (int opt : Check.outside(0, 3)) {
            for (int p = 0; p < 2; p++) {
                Check.refused("setRange of option " + opt, x, x.setRange(p, opt, 1, 2), before);
            }
        }
    }

    private static void refusedWhileNegotiating() {
        Check.sentence("Promise 2", REFUSED);
        for (int state = 4; state <= 9; state++) {
            PppNegotiator x = Scene.in(state);
            int[] before = Check.everything(x);
            for (int opt = 0; opt < 4; opt++) {
                Check.refused("setRange in state " + state, x, x.setRange(0, opt, 3, 7), before);
            }
        }
    }

    private static void takenBefore() {
        Check.sentence("Promise 2", REFUSED);
        for (int state = 0; state <= 3; state++) {
            PppNegotiator x = Scene.in(state);
            for (int opt = 0; opt < 4; opt++) {
                Check.due("setRange in state " + state, x.setRange(0, opt, 3, 7), true);
                Check.due("lo", x.optionInfo(0, opt, PppNegotiator.OI_LO), 3);
                Check.due("hi", x.optionInfo(0, opt, PppNegotiator.OI_HI), 7);
            }
        }
    }

    /** It is the state of the peer named that counts, not the other one's. */
    private static void statesArePerPeer() {
        Check.sentence("Promise 2", REFUSED);
        PppNegotiator x = Scene.in(6);
        Check.due("setRange of the other peer", x.setRange(1, 0, 1, 2), true);
        x = Scene.fresh();
        x.up(1);
        x.open(1);
        Check.due("setRange of the resting peer", x.setRange(0, 0, 1, 2), true);
        Check.due("setRange of the busy peer", x.setRange(1, 0, 1, 2), false);
    }

    /** Only the two ends of that one range change, not even want and included. */
    private static void range(int lo, int hi, int loDue, int hiDue) {
        Check.sentence("Promise 2", CLAMPED);
        for (int p = 0; p < 2; p++) {
            for (int o = 0; o < 4; o++) {
                PppNegotiator x = Scene.fresh();
                int[] due = Check.everything(x);
                int at = p * (due.length / 2) + 13 + o * 7;
                due[at + PppNegotiator.OI_LO] = loDue;
                due[at + PppNegotiator.OI_HI] = hiDue;
                String call = "setRange(" + p + ", " + o + ", " + lo + ", " + hi + ")";
                Check.due(call, x.setRange(p, o, lo, hi), true);
                Check.unchanged(call + " beside the range", x, due);
            }
        }
    }

    private static void clamped() {
        range(100, 200, 100, 200);
        range(0, 65535, 0, 65535);
        range(1, 65534, 1, 65534);
        range(-1, 65536, 0, 65535);
        range(Integer.MIN_VALUE, Integer.MAX_VALUE, 0, 65535);
        range(-5, -1, 0, 0);
        range(65536, 70000, 65535, 65535);
    }

    private static void emptyOrNot() {
        range(7, 7, 7, 7);
        range(0, 0, 0, 0);
        range(65535, 65535, 65535, 65535);
        range(8, 7, 8, 7);
        range(200, 100, 200, 100);
        range(65536, -1, 65535, 0);
        range(Integer.MAX_VALUE, Integer.MIN_VALUE, 65535, 0);
    }

    /** After a negotiation, when every item of the option has a value of its own. */
    private static void nothingElse() {
        Check.sentence("Promise 2", NOTHING_ELSE);
        PppNegotiator x = Scene.withoutMagic();
        x.setRange(1, PppNegotiator.OPT_COMP, 0, 9);
        for (int p = 0; p < 2; p++) {
            x.up(p);
            x.open(p);
        }
        x.drop(1);
        x.deliver(0);
        x.deliver(1);
        x.deliver(0);
        x.deliver(1);
        Check.options("agreed on 9", x, 0, PppNegotiator.OI_LOCAL, 1500, -1, -1, 9);
        x.down(0);
        int[] due = Check.everything(x);
        int at = 13 + PppNegotiator.OPT_COMP * 7;
        due[at + PppNegotiator.OI_LO] = 6;
        due[at + PppNegotiator.OI_HI] = 5;
        Check.due("an empty range", x.setRange(0, PppNegotiator.OPT_COMP, 6, 5), true);
        Check.unchanged("an empty range, beside it,", x, due);
        Check.options("included stays", x, 0, PppNegotiator.OI_INCLUDED, 1, 0, 0, 1);
        Check.options("want stays", x, 0, PppNegotiator.OI_WANT, 1500, 0, 0, 9);
    }

    public static void main(String[] args) {
        noSuchPeer();
        noSuchOption();
        refusedWhileNegotiating();
        takenBefore();
        statesArePerPeer();
        clamped();
        emptyOrNot();
        nothingElse();
        Check.end();
    }
}
