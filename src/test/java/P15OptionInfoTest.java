/** Promise 15: each selector answers its own item of its own option and peer. */
public final class P15OptionInfoTest {
    private static final String REFUSED =
        "Answers -1 if peer is not 0 or 1, opt is not 0..3, or what is not 0..6.";

    private static void due(PppNegotiator x, int peer, int opt, int what, int answer) {
        Check.due("optionInfo(" + peer + ", " + opt + ", " + what + ")",
            x.optionInfo(peer, opt, what), answer);
    }

    private static void noSuchPeer() {
        Check.sentence("Promise 15", REFUSED);
        PppNegotiator x = Scene.busy();
        for (int peer : Check.outside(0, 1)) {
            for (int opt = 0; opt < 4; opt++) {
                for (int what = 0; what < 7; what++) {
                    due(x, peer, opt, what, -1);
                }
            }
        }
    }

    private static void noSuchOption() {
        Check.sentence("Promise 15", REFUSED);
        PppNegotiator x = Scene.busy();
        for (int opt : Check.outside(0, 3)) {
            for (int what = 0; what < 7; what++) {
                due(x, 0, opt, what, -1);
                due(x, 1, opt, what, -1);
            }
        }
    }

    private static void noSuchItem() {
        Check.sentence("Promise 15", REFUSED);
        PppNegotiator x = Scene.busy();
        for (int what : Check.outside(0, 6)) {
            for (int opt = 0; opt < 4; opt++) {
                due(x, 0, opt, what, -1);
                due(x, 1, opt, what, -1);
            }
        }
    }

    private static void nothingChanges() {
        Check.sentence("Promise 15", "Nothing changes.");
        PppNegotiator x = Scene.busy();
        int[] before = Check.everything(x);
        for (int peer = -1; peer <= 2; peer++) {
            for (int opt = -1; opt <= 4; opt++) {
                for (int what = -1; what <= 7; what++) {
                    x.optionInfo(peer, opt, what);
                }
            }
        }
        Check.unchanged("optionInfo", x, before);
    }

    private static void included() {
        Check.sentence("Promise 15", "OI_INCLUDED (1 or 0)");
        PppNegotiator x = Scene.fresh();
        for (int peer = 0; peer < 2; peer++) {
            Check.options("a new object", x, peer, PppNegotiator.OI_INCLUDED, 1, 0, 1, 1);
            x.setRange(peer, PppNegotiator.OPT_MRU, 1, 0);
            x.setRange(peer, PppNegotiator.OPT_AUTH, 0, 0);
            x.up(peer);
            x.open(peer);
            Check.options("the next start", x, peer, PppNegotiator.OI_INCLUDED, 0, 1, 1, 1);
        }
    }

    /** Both peers ask for different values; afterwards new ranges leave the rest as it was. */
    private static void allItems() {
        Check.sentence("Promise 15", "Answers the peer's item for option opt selected by what");
        PppNegotiator x = Scene.fresh();
        x.setRange(0, PppNegotiator.OPT_AUTH, 2, 5);
        x.setRange(1, PppNegotiator.OPT_AUTH, 2, 4);
        x.setRange(1, PppNegotiator.OPT_MAGIC, 1, 60000);
        x.setRange(0, PppNegotiator.OPT_COMP, 1, 0);
        for (int p = 0; p < 2; p++) {
            x.up(p);
            x.open(p);
        }
        // One after the other: if both adopt at once, their magic numbers may stay alike.
        for (int answer : new int[] {3, 3, 2}) {
            Scene.deliverCode(x, 0, 1);
            Scene.deliverCode(x, 1, answer);
        }
        for (int answer : new int[] {4, 2}) {
            Scene.deliverCode(x, 1, 1);
            Scene.deliverCode(x, 0, answer);
        }
        Check.peer("agreed", x, 0, PppNegotiator.INFO_STATE, 9);
        Check.peer("agreed", x, 1, PppNegotiator.INFO_STATE, 9);
        x.down(0);
        for (int o = 0; o < 4; o++) {
            x.setRange(0, o, 10 + o, 20 + o);
        }
        Check.options("peer 0", x, 0, PppNegotiator.OI_LO, 10, 11, 12, 13);
        Check.options("peer 0", x, 0, PppNegotiator.OI_HI, 20, 21, 22, 23);
        Check.options("peer 0", x, 0, PppNegotiator.OI_WANT, 1500, 4, 59999, 0);
        Check.options("peer 0", x, 0, PppNegotiator.OI_INCLUDED, 1, 1, 1, 0);
        Check.options("peer 0", x, 0, PppNegotiator.OI_SENT, 1500, 4, 59999, -1);
        Check.options("peer 0", x, 0, PppNegotiator.OI_LOCAL, 1500, 4, 59999, -1);
        Check.options("peer 0", x, 0, PppNegotiator.OI_REMOTE, 1500, 4, 60000, -1);
        Check.options("peer 1", x, 1, PppNegotiator.OI_LO, 64, 2, 1, 0);
        Check.options("peer 1", x, 1, PppNegotiator.OI_HI, 1500, 4, 60000, 15);
        Check.options("peer 1", x, 1, PppNegotiator.OI_WANT, 1500, 4, 60000, 15);
        Check.options("peer 1", x, 1, PppNegotiator.OI_INCLUDED, 1, 1, 1, 0);
        Check.options("peer 1", x, 1, PppNegotiator.OI_SENT, 1500, 4, 60000, -1);
        Check.options("peer 1", x, 1, PppNegotiator.OI_LOCAL, 1500, 4, 60000, -1);
        Check.options("peer 1", x, 1, PppNegotiator.OI_REMOTE, 1500, 4, 59999, -1);
    }

    public static void main(String[] args) {
        noSuchPeer();
        noSuchOption();
        noSuchItem();
        nothingChanges();
        included();
        allItems();
        Check.end();
    }
}
