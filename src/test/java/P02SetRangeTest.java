/** Promise 2: where a range may be set, how it is clamped, and what stays as it was. */
public final class P02SetRangeTest {
    private static void wrongInputs() {
        PppNegotiator x = Scene.fresh();
        int[] before = Check.everything(x);
        int[] wrong = {Integer.MIN_VALUE, -1, 2, Integer.MAX_VALUE};
        for (int peer : wrong) {
            Check.refused("setRange of peer " + peer, x, x.setRange(peer, 0, 1, 2), before);
        }
        wrong[2] = 4;
        for (int opt : wrong) {
            Check.refused("setRange of option " + opt, x, x.setRange(0, opt, 1, 2), before);
        }
    }

    private static void byState() {
        for (int state = 0; state <= 9; state++) {
            PppNegotiator x = Scene.in(state);
            int[] before = Check.everything(x);
            boolean answer = x.setRange(0, PppNegotiator.OPT_COMP, 3, 7);
            if (state >= 4) {
                Check.refused("setRange in state " + state, x, answer, before);
            } else {
                Check.due("setRange in state " + state, answer, true);
                Check.due("lo", x.optionInfo(0, 3, PppNegotiator.OI_LO), 3);
                Check.due("hi", x.optionInfo(0, 3, PppNegotiator.OI_HI), 7);
            }
        }
    }

    /** Only the two ends of that one range change, not even want and included. */
    private static void onlyTheRange(int lo, int hi, int loDue, int hiDue) {
        for (int p = 0; p < 2; p++) {
            for (int o = 0; o < 4; o++) {
                PppNegotiator x = Scene.fresh();
                int[] due = Check.everything(x);
                int at = p * (due.length / 2) + 13 + o * 7;
                due[at + PppNegotiator.OI_LO] = loDue;
                due[at + PppNegotiator.OI_HI] = hiDue;
                String call = "setRange(" + p + ", " + o + ", " + lo + ", " + hi + ")";
                Check.due(call, x.setRange(p, o, lo, hi), true);
                Check.unchanged(call + " beside the range", x, due);
            }
        }
    }

    /** The other peer's state is no hindrance. */
    private static void statesArePerPeer() {
        PppNegotiator x = Scene.in(6);
        Check.due("setRange of the other peer", x.setRange(1, 0, 1, 2), true);
    }

    public static void main(String[] args) {
        wrongInputs();
        byState();
        statesArePerPeer();
        onlyTheRange(100, 200, 100, 200);
        onlyTheRange(7, 7, 7, 7);
        onlyTheRange(200, 100, 200, 100);
        onlyTheRange(0, 65535, 0, 65535);
        onlyTheRange(-1, 65536, 0, 65535);
        onlyTheRange(65536, -1, 65535, 0);
        onlyTheRange(Integer.MIN_VALUE, Integer.MAX_VALUE, 0, 65535);
        onlyTheRange(Integer.MAX_VALUE, Integer.MIN_VALUE, 65535, 0);
        Check.end();
    }
}
