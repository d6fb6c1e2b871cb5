/** Promise 1: the clamping of the arguments, and what a new object shows. */
public final class P01ConstructionTest {
    private static final String CLAMPED = "Each argument is clamped (below the least becomes the"
        + " least, above the greatest the greatest): maxConfigure 1..10, maxTerminate 1..4,"
        + " maxFailure 1..5, restartTicks 1..4.";

    private static void newWires(PppNegotiator x) {
        Check.sentence("Promise 1", "Both wires are empty.");
        for (int d = 0; d < 2; d++) {
            Check.due("wireSize", x.wireSize(d), 0);
            Check.due("wireInfo of the head", x.wireInfo(d, 0, PppNegotiator.W_DATA), -1);
        }
    }

    private static void newPeers(PppNegotiator x) {
        Check.sentence("Promise 1", "Both peers are in state STATE_INITIAL with restart, timer,"
            + " nextId, crId, highCr, naks, missed, echoId, ups, downs, starts and finishes all 0.");
        for (int p = 0; p < 2; p++) {
            for (int what = PppNegotiator.INFO_STATE; what <= PppNegotiator.INFO_FINISHES; what++) {
                Check.peer("new", x, p, what, 0);
            }
        }
    }

    private static void newOptions(PppNegotiator x) {
        Check.sentence("Promise 1", "For both peers the ranges are MRU 64..1500, AUTH 1..0 (empty),"
            + " MAGIC 1..65535, COMP 0..15; want = hi; included = (lo <= hi); sent, local and remote"
            + " all NONE.");
        for (int p = 0; p < 2; p++) {
            Check.options("new", x, p, PppNegotiator.OI_LO, 64, 1, 1, 0);
            Check.options("new", x, p, PppNegotiator.OI_HI, 1500, 0, 65535, 15);
            Check.options("new", x, p, PppNegotiator.OI_WANT, 1500, 0, 65535, 15);
            Check.options("new", x, p, PppNegotiator.OI_INCLUDED, 1, 0, 1, 1);
            Check.options("new", x, p, PppNegotiator.OI_SENT, -1, -1, -1, -1);
            Check.options("new", x, p, PppNegotiator.OI_LOCAL, -1, -1, -1, -1);
            Check.options("new", x, p, PppNegotiator.OI_REMOTE, -1, -1, -1, -1);
        }
    }

    private static PppNegotiator withoutMagic(int configure, int terminate, int failure, int ticks) {
        PppNegotiator x = new PppNegotiator(configure, terminate, failure, ticks);
        x.setRange(0, PppNegotiator.OPT_MAGIC, 1, 0);
        x.setRange(1, PppNegotiator.OPT_MAGIC, 1, 0);
        return x;
    }

    /** As many requests as the clamped number, and a counter that an Ack sets to just that. */
    private static void maxConfigure(int given, int due) {
        Check.sentence("Promise 1", CLAMPED);
        String what = "maxConfigure " + given;
        PppNegotiator x = withoutMagic(given, 1, 1, 1);
        x.up(0);
        x.open(0);
        Check.peer(what + ", first request", x, 0, PppNegotiator.INFO_RESTART, due - 1);
        Scene.ticks(x, 20);
        Check.peer(what + ", requests", x, 0, PppNegotiator.INFO_NEXT_ID, due,
            PppNegotiator.INFO_STATE, 3);
        x = withoutMagic(given, 1, 1, 1);
        Scene.bring(x, 7);
        Check.peer(what + ", Ack", x, 0, PppNegotiator.INFO_RESTART, due);
    }

    private static void maxTerminate(int given, int due) {
        Check.sentence("Promise 1", CLAMPED);
        String what = "maxTerminate " + given;
        PppNegotiator x = withoutMagic(1, given, 1, 1);
        x.up(0);
        x.open(0);
        x.close(0);
        Check.peer(what + ", first request", x, 0, PppNegotiator.INFO_RESTART, due - 1);
        Scene.ticks(x, 20);
        Check.peer(what + ", requests", x, 0, PppNegotiator.INFO_NEXT_ID, 1 + due,
            PppNegotiator.INFO_STATE, 2);
    }

    /** Peer 1 naks a request that it never likes, until it has failed often enough to reject. */
    private static void maxFailure(int given, int due) {
        Check.sentence("Promise 1", CLAMPED);
        PppNegotiator x = withoutMagic(10, 1, given, 1);
        x.setRange(1, PppNegotiator.OPT_MRU, 2000, 3000);
        for (int p = 0; p < 2; p++) {
            x.up(p);
            x.open(p);
        }
        x.drop(1);
        int naks = 0;
        for (int i = 0; i < 8; i++) {
            x.deliver(0);
            if (x.wireInfo(1, 0, PppNegotiator.W_CODE) == PppNegotiator.CODE_CONF_NAK) {
                naks++;
            }
            x.deliver(1);
        }
        Check.due("naks sent with maxFailure " + given, naks, due);
    }

    private static void restartTicks(int given, int due) {
        Check.sentence("Promise 1", CLAMPED);
        String what = "restartTicks " + given;
        PppNegotiator x = withoutMagic(5, 1, 1, given);
        x.up(0);
        x.open(0);
        Check.peer(what, x, 0, PppNegotiator.INFO_TIMER, due);
        Scene.ticks(x, due - 1);
        Check.peer(what + ", not yet", x, 0, PppNegotiator.INFO_NEXT_ID, 1);
        x.tick();
        Check.peer(what + ", now", x, 0, PppNegotiator.INFO_NEXT_ID, 2,
            PppNegotiator.INFO_TIMER, due);
    }

    /** Each argument is clamped by its own bounds, whatever the others are. */
    private static void allAtOnce() {
        Check.sentence("Promise 1", CLAMPED);
        PppNegotiator x = withoutMagic(99, 99, 99, 99);
        x.up(0);
        x.open(0);
        Check.peer("all too large", x, 0, PppNegotiator.INFO_RESTART, 9, PppNegotiator.INFO_TIMER, 4);
        x.close(0);
        Check.peer("all too large", x, 0, PppNegotiator.INFO_RESTART, 3, PppNegotiator.INFO_TIMER, 4);
        x = withoutMagic(-99, -99, -99, -99);
        x.up(0);
        x.open(0);
        Check.peer("all too small", x, 0, PppNegotiator.INFO_RESTART, 0, PppNegotiator.INFO_TIMER, 1);
        x.close(0);
        Check.peer("all too small", x, 0, PppNegotiator.INFO_RESTART, 0, PppNegotiator.INFO_TIMER, 1);
    }

    public static void main(String[] args) {
        int[][] arguments = {{10, 2, 5, 3}, {Integer.MIN_VALUE, -1, 0, Integer.MAX_VALUE}};
        for (int[] a : arguments) {
            newWires(new PppNegotiator(a[0], a[1], a[2], a[3]));
            newPeers(new PppNegotiator(a[0], a[1], a[2], a[3]));
            newOptions(new PppNegotiator(a[0], a[1], a[2], a[3]));
        }
        for (int given : new int[] {Integer.MIN_VALUE, -256, -1, 0, 1}) {
            maxConfigure(given, 1);
            maxTerminate(given, 1);
            maxFailure(given, 1);
            restartTicks(given, 1);
        }
        for (int given : new int[] {0, 1, 256, 65536, Integer.MAX_VALUE - 10}) {
            maxConfigure(10 + given, 10);
            maxTerminate(4 + given, 4);
            maxFailure(5 + given, 5);
            restartTicks(4 + given, 4);
        }
        for (int given = 2; given <= 4; given++) {
            maxConfigure(given, given);
            maxTerminate(given, given);
            maxFailure(given, given);
            restartTicks(given, given);
        }
        maxConfigure(9, 9);
        maxConfigure(Integer.MAX_VALUE, 10);
        maxTerminate(Integer.MAX_VALUE, 4);
        maxFailure(Integer.MAX_VALUE, 5);
        restartTicks(Integer.MAX_VALUE, 4);
        allAtOnce();
        Check.end();
    }
}
