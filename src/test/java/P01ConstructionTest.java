/** Promise 1: the clamping of the arguments, and what a new object shows. */
public final class P01ConstructionTest {
    private static void newObject(PppNegotiator x) {
        for (int p = 0; p < 2; p++) {
            for (int what = PppNegotiator.INFO_STATE; what <= PppNegotiator.INFO_FINISHES; what++) {
                Check.peer("new", x, p, what, 0);
            }
            Check.options("new", x, p, PppNegotiator.OI_LO, 64, 1, 1, 0);
            Check.options("new", x, p, PppNegotiator.OI_HI, 1500, 0, 65535, 15);
            Check.options("new", x, p, PppNegotiator.OI_WANT, 1500, 0, 65535, 15);
            Check.options("new", x, p, PppNegotiator.OI_INCLUDED, 1, 0, 1, 1);
            Check.options("new", x, p, PppNegotiator.OI_SENT, -1, -1, -1, -1);
            Check.options("new", x, p, PppNegotiator.OI_LOCAL, -1, -1, -1, -1);
            Check.options("new", x, p, PppNegotiator.OI_REMOTE, -1, -1, -1, -1);
            Check.due("new: wireSize", x.wireSize(p), 0);
        }
    }

    /** The first request spends one of maxConfigure and sets the timer to restartTicks. */
    private static void configureAndTicks(int maxConfigure, int restartTicks, int left, int timer) {
        PppNegotiator x = new PppNegotiator(maxConfigure, 1, 1, restartTicks);
        x.up(0);
        x.open(0);
        Check.peer("maxConfigure " + maxConfigure + ", restartTicks " + restartTicks, x, 0,
            PppNegotiator.INFO_RESTART, left, PppNegotiator.INFO_TIMER, timer);
    }

    private static void terminate(int maxTerminate, int left) {
        PppNegotiator x = new PppNegotiator(1, maxTerminate, 1, 1);
        x.up(0);
        x.open(0);
        x.close(0);
        Check.peer("maxTerminate " + maxTerminate, x, 0, PppNegotiator.INFO_RESTART, left);
    }

    /** Peer 1 naks a request that it never likes, until it has failed often enough to reject. */
    private static void failure(int maxFailure, int naksDue) {
        PppNegotiator x = new PppNegotiator(10, 1, maxFailure, 1);
        x.setRange(1, PppNegotiator.OPT_MRU, 2000, 3000);
        for (int p = 0; p < 2; p++) {
            x.setRange(p, PppNegotiator.OPT_MAGIC, 1, 0);
            x.up(p);
            x.open(p);
        }
        x.drop(1);
        int naks = 0;
        for (int i = 0; i < 8; i++) {
            x.deliver(0);
            if (x.wireInfo(1, 0, PppNegotiator.W_CODE) == PppNegotiator.CODE_CONF_NAK) {
                naks++;
            }
            x.deliver(1);
        }
        Check.due("naks sent with maxFailure " + maxFailure, naks, naksDue);
    }

    public static void main(String[] args) {
        newObject(new PppNegotiator(10, 2, 5, 3));
        newObject(new PppNegotiator(Integer.MIN_VALUE, -1, 0, Integer.MAX_VALUE));
        int[][] configure = {{Integer.MIN_VALUE, 0}, {-1, 0}, {0, 0}, {1, 0}, {2, 1}, {9, 8},
            {10, 9}, {11, 9}, {Integer.MAX_VALUE, 9}};
        for (int[] row : configure) {
            configureAndTicks(row[0], 2, row[1], 2);
        }
        int[][] ticks = {{Integer.MIN_VALUE, 1}, {0, 1}, {1, 1}, {2, 2}, {3, 3}, {4, 4}, {5, 4},
            {Integer.MAX_VALUE, 4}};
        for (int[] row : ticks) {
            configureAndTicks(5, row[0], 4, row[1]);
        }
        int[][] terminate = {{Integer.MIN_VALUE, 0}, {0, 0}, {1, 0}, {2, 1}, {3, 2}, {4, 3}, {5, 3},
            {Integer.MAX_VALUE, 3}};
        for (int[] row : terminate) {
            terminate(row[0], row[1]);
        }
        int[][] failure = {{Integer.MIN_VALUE, 1}, {0, 1}, {1, 1}, {2, 2}, {4, 4}, {5, 5}, {6, 5},
            {Integer.MAX_VALUE, 5}};
        for (int[] row : failure) {
            failure(row[0], row[1]);
        }
        Check.end();
    }
}
