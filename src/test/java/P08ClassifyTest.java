/** Promise 8, CLASSIFY: what peer 1 answers to the request of peer 0, by both peers' ranges. */
public final class P08ClassifyTest {
    private static final int ACK = 2;
    private static final int NAK = 3;
    private static final int REJ = 4;

    /** Peer 0 asks for exactly these values; NONE leaves the option out. */
    private static PppNegotiator asking(int maxFailure, int... values) {
        PppNegotiator x = new PppNegotiator(10, 2, maxFailure, 3);
        for (int o = 0; o < 4; o++) {
            if (values[o] == PppNegotiator.NONE) {
                x.setRange(0, o, 1, 0);
            } else {
                x.setRange(0, o, values[o], values[o]);
            }
        }
        return x;
    }

    /** Ranges of peer 1: lo, hi of each option; then the answer: code and four option fields. */
    private static void answer(String what, int[] asked, int[] ranges, int... due) {
        PppNegotiator x = asking(5, asked);
        for (int o = 0; o < 4; o++) {
            x.setRange(1, o, ranges[2 * o], ranges[2 * o + 1]);
        }
        x.up(0);
        x.open(0);
        x.up(1);
        x.open(1);
        x.drop(1);
        x.deliver(0);
        Check.due(what + ": messages", x.wireSize(1), 1);
        Check.message(what, x, 1, 0, due[0], 1, 0, due[1], due[2], due[3], due[4]);
        Check.peer(what, x, 1, PppNegotiator.INFO_NAKS, due[0] == NAK ? 1 : 0,
            PppNegotiator.INFO_STATE, due[0] == ACK ? 8 : 6);
    }

    private static int[] row(int... numbers) {
        return numbers;
    }

    private static void edgesOfARange() {
        int[] ranges = row(100, 200, 1, 0, 1, 0, 1, 0);
        answer("below", row(99, -1, -1, -1), ranges, NAK, 100, -1, -1, -1);
        answer("least", row(100, -1, -1, -1), ranges, ACK, 100, -1, -1, -1);
        answer("greatest", row(200, -1, -1, -1), ranges, ACK, 200, -1, -1, -1);
        answer("above", row(201, -1, -1, -1), ranges, NAK, 200, -1, -1, -1);
        answer("nothing asked", row(-1, -1, -1, -1), ranges, ACK, -1, -1, -1, -1);
        answer("value 0 is a value", row(0, -1, -1, -1), ranges, NAK, 100, -1, -1, -1);
        answer("0 wanted", row(7, -1, -1, -1), row(0, 0, 1, 0, 1, 0, 1, 0), NAK, 0, -1, -1, -1);
        answer("0 accepted", row(0, -1, -1, -1), row(0, 0, 1, 0, 1, 0, 1, 0), ACK, 0, -1, -1, -1);
    }

    private static void mixtures() {
        int[] all = row(10, 20, 10, 20, 10, 20, 10, 20);
        int[] noAuth = row(10, 20, 1, 0, 10, 20, 1, 0);
        answer("all good", row(10, 11, 12, 13), all, ACK, 10, 11, 12, 13);
        answer("two bad", row(9, 11, 21, 13), all, NAK, 10, -1, 20, -1);
        answer("all bad", row(9, 21, 9, 21), all, NAK, 10, 20, 10, 20);
        answer("rejected", row(15, 16, 12, 18), noAuth, REJ, -1, 16, -1, 18);
        answer("rejected beside bad", row(9, 16, 21, -1), noAuth, REJ, -1, 16, -1, -1);
    }

    /** The same magic number as one's own is never good; for other options it is. */
    private static void magic() {
        answer("lower one", row(-1, -1, 9, -1), row(1, 0, 1, 0, 5, 9, 1, 0), NAK, -1, -1, 8, -1);
        answer("lower one is lo", row(-1, -1, 9, -1), row(1, 0, 1, 0, 8, 9, 1, 0), NAK, -1, -1, 8, -1);
        answer("no lower one", row(-1, -1, 9, -1), row(1, 0, 1, 0, 9, 9, 1, 0), NAK, -1, -1, 9, -1);
        answer("another one", row(-1, -1, 8, -1), row(1, 0, 1, 0, 5, 9, 1, 0), ACK, -1, -1, 8, -1);
        answer("0 and no lower", row(-1, -1, 0, -1), row(1, 0, 1, 0, 0, 0, 1, 0), NAK, -1, -1, 0, -1);
        answer("other options", row(9, 9, -1, 9), row(5, 9, 5, 9, 1, 0, 5, 9), ACK, 9, 9, -1, 9);
    }

    /** want is brought down to lo by a Nak, so that only a higher number is left to suggest. */
    private static void magicGoesUp(int hi) {
        PppNegotiator x = Scene.fresh();
        x.setRange(0, PppNegotiator.OPT_MAGIC, 5, 5);
        x.setRange(1, PppNegotiator.OPT_MAGIC, 5, hi);
        for (int p = 0; p < 2; p++) {
            x.up(p);
            x.open(p);
        }
        x.deliver(1);
        Scene.find(x, 0, NAK);
        Check.message("peer 0 suggests its only number", x, 0, 0, 3, 1, 0, -1, -1, 5, -1);
        x.deliver(0);
        Check.options("peer 1 wants it too", x, 1, PppNegotiator.OI_WANT, 1500, 0, 5, 15);
        Scene.empty(x, 1);
        Scene.deliverCode(x, 0, 1);
        Check.message("peer 1 suggests a higher one", x, 1, 0, 3, 1, 0, -1, -1, 6, -1);
    }

    /** An option that one no longer asks for has no own number to guard. */
    private static void magicNotIncluded() {
        PppNegotiator x = Scene.fresh();
        x.setRange(0, PppNegotiator.OPT_MAGIC, 1, 0);
        for (int p = 0; p < 2; p++) {
            x.up(p);
            x.open(p);
        }
        x.deliver(1);
        Scene.deliverCode(x, 0, REJ);
        Check.options("rejected", x, 1, PppNegotiator.OI_INCLUDED, 1, 0, 0, 1);
        Check.options("rejected", x, 1, PppNegotiator.OI_WANT, 1500, 0, 65535, 15);
        x.down(0);
        x.setRange(0, PppNegotiator.OPT_MAGIC, 65535, 65535);
        Scene.empty(x, 0);
        Scene.empty(x, 1);
        x.up(0);
        x.deliver(0);
        Check.message("the same number, but not asked for", x, 1, 0, 2, 2, 0, 1500, -1, 65535, 15);
    }

    /** After maxFailure Naks the nakked options are rejected, with the values received. */
    private static void tooManyNaks() {
        for (int maxFailure = 1; maxFailure <= 5; maxFailure++) {
            PppNegotiator x = asking(maxFailure, 30, 15, -1, 9);
            for (int o = 0; o < 4; o++) {
                x.setRange(1, o, 10, 20);
            }
            for (int p = 0; p < 2; p++) {
                x.up(p);
                x.open(p);
            }
            x.drop(1);
            for (int i = 1; i <= maxFailure; i++) {
                x.deliver(0);
                Check.message("nak " + i, x, 1, 0, 3, i, 0, 20, -1, -1, 10);
                Check.peer("nak " + i, x, 1, PppNegotiator.INFO_NAKS, i);
                x.deliver(1);
            }
            x.deliver(0);
            Check.message("reject", x, 1, 0, 4, maxFailure + 1, 0, 30, -1, -1, 9);
            Check.peer("a reject does not count", x, 1, PppNegotiator.INFO_NAKS, maxFailure);
            x.deliver(1);
            x.deliver(0);
            Check.message("ack", x, 1, 0, 2, maxFailure + 2, 0, -1, 15, -1, -1);
            Check.peer("an ack forgets the naks", x, 1, PppNegotiator.INFO_NAKS, 0);
        }
    }

    public static void main(String[] args) {
        edgesOfARange();
        mixtures();
        magic();
        magicGoesUp(9);
        magicGoesUp(6);
        magicNotIncluded();
        tooManyNaks();
        Check.end();
    }
}
