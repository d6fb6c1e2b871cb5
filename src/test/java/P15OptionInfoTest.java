/** Promise 15: each selector answers its own item of its own option and peer. */
public final class P15OptionInfoTest {
    private static void wrongInputs() {
        PppNegotiator x = Scene.in(9);
        int[] before = Check.everything(x);
        int[] wrong = {Integer.MIN_VALUE, -1, 2, Integer.MAX_VALUE};
        for (int peer : wrong) {
            Check.due("optionInfo(" + peer + ", 0, 0)", x.optionInfo(peer, 0, 0), -1);
        }
        wrong[2] = 4;
        for (int opt : wrong) {
            for (int peer = 0; peer < 2; peer++) {
                String call = "optionInfo(" + peer + ", " + opt + ", 0)";
                Check.due(call, x.optionInfo(peer, opt, 0), -1);
            }
        }
        wrong[2] = 7;
        for (int what : wrong) {
            for (int peer = 0; peer < 2; peer++) {
                String call = "optionInfo(" + peer + ", 3, " + what + ")";
                Check.due(call, x.optionInfo(peer, 3, what), -1);
            }
        }
        Check.unchanged("optionInfo", x, before);
    }

    /** Both peers ask for different values; afterwards new ranges leave the rest as it was. */
    private static void allItems() {
        PppNegotiator x = Scene.fresh();
        x.setRange(0, PppNegotiator.OPT_AUTH, 2, 5);
        x.setRange(1, PppNegotiator.OPT_AUTH, 2, 4);
        x.setRange(1, PppNegotiator.OPT_MAGIC, 1, 60000);
        x.setRange(0, PppNegotiator.OPT_COMP, 1, 0);
        for (int p = 0; p < 2; p++) {
            x.up(p);
            x.open(p);
        }
        // One after the other: if both adopt at once, their magic numbers may stay alike.
        for (int answer : new int[] {3, 3, 2}) {
            Scene.deliverCode(x, 0, 1);
            Scene.deliverCode(x, 1, answer);
        }
        for (int answer : new int[] {4, 2}) {
            Scene.deliverCode(x, 1, 1);
            Scene.deliverCode(x, 0, answer);
        }
        Check.peer("agreed", x, 0, PppNegotiator.INFO_STATE, 9);
        Check.peer("agreed", x, 1, PppNegotiator.INFO_STATE, 9);
        x.down(0);
        for (int o = 0; o < 4; o++) {
            x.setRange(0, o, 10 + o, 20 + o);
        }
        Check.options("peer 0", x, 0, PppNegotiator.OI_LO, 10, 11, 12, 13);
        Check.options("peer 0", x, 0, PppNegotiator.OI_HI, 20, 21, 22, 23);
        Check.options("peer 0", x, 0, PppNegotiator.OI_WANT, 1500, 4, 59999, 0);
        Check.options("peer 0", x, 0, PppNegotiator.OI_INCLUDED, 1, 1, 1, 0);
        Check.options("peer 0", x, 0, PppNegotiator.OI_SENT, 1500, 4, 59999, -1);
        Check.options("peer 0", x, 0, PppNegotiator.OI_LOCAL, 1500, 4, 59999, -1);
        Check.options("peer 0", x, 0, PppNegotiator.OI_REMOTE, 1500, 4, 60000, -1);
        Check.options("peer 1", x, 1, PppNegotiator.OI_LO, 64, 2, 1, 0);
        Check.options("peer 1", x, 1, PppNegotiator.OI_HI, 1500, 4, 60000, 15);
        Check.options("peer 1", x, 1, PppNegotiator.OI_WANT, 1500, 4, 60000, 15);
        Check.options("peer 1", x, 1, PppNegotiator.OI_INCLUDED, 1, 1, 1, 0);
        Check.options("peer 1", x, 1, PppNegotiator.OI_SENT, 1500, 4, 60000, -1);
        Check.options("peer 1", x, 1, PppNegotiator.OI_LOCAL, 1500, 4, 60000, -1);
        Check.options("peer 1", x, 1, PppNegotiator.OI_REMOTE, 1500, 4, 59999, -1);
    }

    public static void main(String[] args) {
        wrongInputs();
        allItems();
        Check.end();
    }
}
