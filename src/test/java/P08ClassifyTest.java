/** Promise 8, CLASSIFY: what peer 1 answers to the request of peer 0, by both peers' ranges. */
public final class P08ClassifyTest {
    private static final int ACK = 2;
    private static final int NAK = 3;
    private static final int REJ = 4;
    private static final String RANGE = "if lo > hi, o is rejected; else if v < lo or v > hi, o is"
        + " nakked with suggestion lo (v < lo) or hi (v > hi)";
    private static final String MAGIC = "else if o == OPT_MAGIC and included and v == want, o is"
        + " nakked with suggestion want-1 if want-1 >= lo, else want+1 if want+1 <= hi, else want";
    private static final String REJECTED = "If any option is rejected: RCR-, and the reply is a"
        + " Configure-Reject (id m.id) holding the received values of the rejected options only.";
    private static final String NAKKED = "Else if any is nakked: RCR-; if naks >= maxFailure the"
        + " reply is a Configure-Reject (id m.id) holding the received values of the nakked options,"
        + " else a Configure-Nak (id m.id) holding the suggestions of the nakked options.";

    /** Peer 0 asks for exactly these values; NONE leaves the option out. */
    private static PppNegotiator asking(int maxFailure, int... values) {
        PppNegotiator x = new PppNegotiator(10, 2, maxFailure, 3);
        for (int o = 0; o < 4; o++) {
            if (values[o] == PppNegotiator.NONE) {
                x.setRange(0, o, 1, 0);
            } else {
                x.setRange(0, o, values[o], values[o]);
            }
        }
        return x;
    }

    /** Ranges of peer 1: lo, hi of each option; then the answer: code and four option fields. */
    private static void answer(String what, int[] asked, int[] ranges, int... due) {
        PppNegotiator x = asking(5, asked);
        for (int o = 0; o < 4; o++) {
            x.setRange(1, o, ranges[2 * o], ranges[2 * o + 1]);
        }
        x.up(0);
        x.open(0);
        x.up(1);
        x.open(1);
        x.drop(1);
        x.deliver(0);
        Check.due(what + ": messages", x.wireSize(1), 1);
        Check.message(what, x, 1, 0, due[0], 1, 0, due[1], due[2], due[3], due[4]);
        Check.peer(what, x, 1, PppNegotiator.INFO_NAKS, due[0] == NAK ? 1 : 0,
            PppNegotiator.INFO_STATE, due[0] == ACK ? 8 : 6);
    }

    private static int[] row(int... numbers) {
        return numbers;
    }

    /** For each option in turn, the others being absent. */
    private static void edgesOfARange() {
        Check.sentence("CLASSIFY", RANGE);
        for (int o = 0; o < 4; o++) {
            one("below", o, 99, 100, 200, NAK, 100);
            one("least", o, 100, 100, 200, ACK, 100);
            one("next to greatest", o, 199, 100, 200, ACK, 199);
            one("above", o, 201, 100, 200, NAK, 200);
            one("far below", o, 0, 100, 200, NAK, 100);
            one("far above", o, 65535, 100, 200, NAK, 200);
            one("0 wanted", o, 7, 0, 0, NAK, 0);
            one("1 above 0", o, 1, 0, 0, NAK, 0);
            one("65535 wanted", o, 65534, 65535, 65535, NAK, 65535);
            one("the widest range, least", o, 0, 0, 65535, ACK, 0);
            one("the widest range, next to greatest", o, 65534, 0, 65535, ACK, 65534);
            one("an empty range by one", o, 7, 8, 7, REJ, 7);
            one("an empty range", o, 0, 65535, 0, REJ, 0);
            one("an empty range around the value", o, 100, 200, 50, REJ, 100);
        }
        // The greatest value is the peer's own as well, which only the magic number minds.
        for (int o : new int[] {0, 1, 3}) {
            one("greatest", o, 200, 100, 200, ACK, 200);
            one("0 accepted", o, 0, 0, 0, ACK, 0);
            one("65535 accepted", o, 65535, 65535, 65535, ACK, 65535);
        }
    }

    /** The range decides and not what a Nak has made of want: 9 is wanted, 15 still accepted. */
    private static void rangeAndNotWant(int asked, int code, int value) {
        Check.sentence("CLASSIFY", RANGE);
        PppNegotiator x = Scene.withAnswers();
        Scene.deliverCode(x, 1, NAK);
        Check.options("a Nak before", x, 0, PppNegotiator.OI_WANT, 1500, 0, 0, 9);
        x.setRange(1, PppNegotiator.OPT_COMP, 0, asked);
        Scene.empty(x, 0);
        Scene.empty(x, 1);
        x.up(1);
        int id = x.wireInfo(1, 0, PppNegotiator.W_ID);
        x.deliver(1);
        int mru = code == ACK ? 1500 : -1;
        Check.message("COMP " + asked + " asked", x, 0, 0, code, id, 0, mru, -1, -1, value);
    }

    /** One option asked for; code and value of the answer. */
    private static void one(String what, int o, int asked, int lo, int hi, int code, int value) {
        int[] values = {-1, -1, -1, -1};
        int[] ranges = {1, 0, 1, 0, 1, 0, 1, 0};
        int[] due = {code, -1, -1, -1, -1};
        values[o] = asked;
        ranges[2 * o] = lo;
        ranges[2 * o + 1] = hi;
        due[1 + o] = value;
        answer(what + ", option " + o, values, ranges, due);
    }

    /** An absent option is never at fault, whatever the range. */
    private static void absent() {
        Check.sentence("CLASSIFY", "For each option o = 0..3 present in m with value v");
        int[] none = row(-1, -1, -1, -1);
        answer("nothing asked", none, row(100, 200, 1, 0, 1, 0, 1, 0), ACK, -1, -1, -1, -1);
        answer("nothing asked", none, row(5, 9, 5, 9, 5, 9, 5, 9), ACK, -1, -1, -1, -1);
        answer("nothing asked", none, row(0, 0, 0, 0, 0, 0, 0, 0), ACK, -1, -1, -1, -1);
    }

    private static void rejected() {
        Check.sentence("CLASSIFY", REJECTED);
        int[] noAuth = row(10, 20, 1, 0, 10, 20, 1, 0);
        answer("rejected", row(15, 16, 12, 18), noAuth, REJ, -1, 16, -1, 18);
        answer("rejected beside bad", row(9, 16, 21, -1), noAuth, REJ, -1, 16, -1, -1);
        answer("bad before rejected", row(9, -1, 21, 0), noAuth, REJ, -1, -1, -1, 0);
        answer("rejected beside one's own magic", row(-1, 65535, 20, -1), noAuth,
            REJ, -1, 65535, -1, -1);
        answer("all rejected", row(1, 2, 3, 4), row(1, 0, 1, 0, 1, 0, 1, 0), REJ, 1, 2, 3, 4);
    }

    private static void nakked() {
        Check.sentence("CLASSIFY", NAKKED);
        int[] all = row(10, 20, 10, 20, 10, 20, 10, 20);
        answer("two bad", row(9, 11, 21, 13), all, NAK, 10, -1, 20, -1);
        answer("all bad", row(9, 21, 9, 21), all, NAK, 10, 20, 10, 20);
        answer("one bad and one's own magic", row(9, 11, 20, 13), all, NAK, 10, -1, 19, -1);
    }

    private static void acceptable() {
        Check.sentence("CLASSIFY", "Else RCR+.");
        int[] all = row(10, 20, 10, 20, 10, 20, 10, 20);
        answer("all good", row(10, 11, 12, 13), all, ACK, 10, 11, 12, 13);
        answer("all at an end", row(20, 20, 10, 20), all, ACK, 20, 20, 10, 20);
    }

    /** The same magic number as one's own is never good; for other options it is. */
    private static void magic() {
        Check.sentence("CLASSIFY", MAGIC);
        one("lower one", 2, 9, 5, 9, NAK, 8);
        one("lower one is lo", 2, 9, 8, 9, NAK, 8);
        one("no other one", 2, 9, 9, 9, NAK, 9);
        one("next to one's own", 2, 8, 5, 9, ACK, 8);
        one("lo", 2, 5, 5, 9, ACK, 5);
        one("0 and no lower", 2, 0, 0, 0, NAK, 0);
        one("1 and 0 is lower", 2, 1, 0, 1, NAK, 0);
        one("65535 and no higher", 2, 65535, 65535, 65535, NAK, 65535);
        one("65535 and one lower", 2, 65535, 65534, 65535, NAK, 65534);
        one("65535 of all", 2, 65535, 0, 65535, NAK, 65534);
        answer("other options", row(9, 9, -1, 9), row(5, 9, 5, 9, 1, 0, 5, 9), ACK, 9, 9, -1, 9);
    }

    /** want is brought down to lo by a Nak, so that only a higher number is left to suggest. */
    private static void magicGoesUp(int lo, int hi) {
        Check.sentence("CLASSIFY", MAGIC);
        PppNegotiator x = Scene.fresh();
        x.setRange(0, PppNegotiator.OPT_MAGIC, lo, lo);
        x.setRange(1, PppNegotiator.OPT_MAGIC, lo, hi);
        for (int p = 0; p < 2; p++) {
            x.up(p);
            x.open(p);
        }
        x.deliver(1);
        Scene.find(x, 0, NAK);
        Check.message("peer 0 suggests its only number", x, 0, 0, 3, 1, 0, -1, -1, lo, -1);
        x.deliver(0);
        Check.options("peer 1 wants it too", x, 1, PppNegotiator.OI_WANT, 1500, 0, lo, 15);
        Scene.empty(x, 1);
        Scene.deliverCode(x, 0, 1);
        Check.message("peer 1 suggests a higher one", x, 1, 0, 3, 1, 0, -1, -1, lo + 1, -1);
    }

    /** In the midst of a range the lower neighbour comes first. */
    private static void magicInTheMidst() {
        Check.sentence("CLASSIFY", MAGIC);
        PppNegotiator x = Scene.fresh();
        x.setRange(0, PppNegotiator.OPT_MAGIC, 5, 5);
        x.setRange(1, PppNegotiator.OPT_MAGIC, 4, 6);
        for (int p = 0; p < 2; p++) {
            x.up(p);
            x.open(p);
        }
        x.deliver(1);
        Scene.deliverCode(x, 0, NAK);
        Check.options("peer 1 wants 5", x, 1, PppNegotiator.OI_WANT, 1500, 0, 5, 15);
        Scene.empty(x, 1);
        Scene.deliverCode(x, 0, 1);
        Check.message("peer 1 suggests 4", x, 1, 0, 3, 1, 0, -1, -1, 4, -1);
    }

    /** An option that one no longer asks for has no own number to guard. */
    private static void magicNotIncluded() {
        Check.sentence("CLASSIFY", MAGIC);
        PppNegotiator x = Scene.fresh();
        x.setRange(0, PppNegotiator.OPT_MAGIC, 1, 0);
        for (int p = 0; p < 2; p++) {
            x.up(p);
            x.open(p);
        }
        x.deliver(1);
        Scene.deliverCode(x, 0, REJ);
        Check.options("rejected", x, 1, PppNegotiator.OI_INCLUDED, 1, 0, 0, 1);
        Check.options("rejected", x, 1, PppNegotiator.OI_WANT, 1500, 0, 65535, 15);
        x.down(0);
        x.setRange(0, PppNegotiator.OPT_MAGIC, 65535, 65535);
        Scene.empty(x, 0);
        Scene.empty(x, 1);
        x.up(0);
        x.deliver(0);
        Check.message("the same number, but not asked for", x, 1, 0, 2, 2, 0, 1500, -1, 65535, 15);
    }

    /** After maxFailure Naks the nakked options are rejected, with the values received. */
    private static void tooManyNaks() {
        Check.sentence("CLASSIFY", NAKKED);
        for (int maxFailure = 1; maxFailure <= 5; maxFailure++) {
            PppNegotiator x = asking(maxFailure, 30, 15, -1, 9);
            for (int o = 0; o < 4; o++) {
                x.setRange(1, o, 10, 20);
            }
            for (int p = 0; p < 2; p++) {
                x.up(p);
                x.open(p);
            }
            x.drop(1);
            for (int i = 1; i <= maxFailure; i++) {
                x.deliver(0);
                Check.message("nak " + i, x, 1, 0, 3, i, 0, 20, -1, -1, 10);
                Check.peer("nak " + i, x, 1, PppNegotiator.INFO_NAKS, i);
                x.deliver(1);
            }
            x.deliver(0);
            Check.message("reject", x, 1, 0, 4, maxFailure + 1, 0, 30, -1, -1, 9);
            Check.peer("a reject does not count", x, 1, PppNegotiator.INFO_NAKS, maxFailure);
            x.deliver(1);
            x.deliver(0);
            Check.message("ack", x, 1, 0, 2, maxFailure + 2, 0, -1, 15, -1, -1);
            Check.peer("an ack forgets the naks", x, 1, PppNegotiator.INFO_NAKS, 0);
        }
    }

    /** One's own magic number is rejected in the end too, with the value received. */
    private static void tooManyMagics() {
        Check.sentence("CLASSIFY", NAKKED);
        PppNegotiator x = asking(2, -1, -1, 9, -1);
        x.setRange(1, PppNegotiator.OPT_MAGIC, 5, 9);
        for (int p = 0; p < 2; p++) {
            x.up(p);
            x.open(p);
        }
        x.drop(1);
        for (int i = 1; i <= 2; i++) {
            x.deliver(0);
            Check.message("nak " + i, x, 1, 0, 3, i, 0, -1, -1, 8, -1);
            x.deliver(1);
        }
        x.deliver(0);
        Check.message("reject", x, 1, 0, 4, 3, 0, -1, -1, 9, -1);
    }

    /** A Reject for an empty range neither counts as a Nak nor forgets the Naks before. */
    private static void rejectsDoNotCount() {
        Check.sentence("Actions of peer p",
            "scn: append the Nak or Reject made by CLASSIFY; if it is a Nak, naks++.");
        PppNegotiator x = asking(5, 30, 7, -1, -1);
        x.setRange(1, PppNegotiator.OPT_MRU, 10, 20);
        for (int p = 0; p < 2; p++) {
            x.up(p);
            x.open(p);
        }
        x.drop(1);
        x.deliver(0);
        Check.message("reject", x, 1, 0, 4, 1, 0, -1, 7, -1, -1);
        Check.peer("reject", x, 1, PppNegotiator.INFO_NAKS, 0);
        x.deliver(1);
        x.deliver(0);
        Check.message("nak", x, 1, 0, 3, 2, 0, 20, -1, -1, -1);
        Check.peer("nak", x, 1, PppNegotiator.INFO_NAKS, 1);
        x.down(0);
        Scene.empty(x, 0);
        Scene.empty(x, 1);
        x.up(0);
        x.deliver(0);
        Check.message("reject again", x, 1, 0, 4, 3, 0, -1, 7, -1, -1);
        Check.peer("reject again", x, 1, PppNegotiator.INFO_NAKS, 1);
    }

    public static void main(String[] args) {
        edgesOfARange();
        rangeAndNotWant(9, ACK, 9);
        rangeAndNotWant(10, ACK, 10);
        rangeAndNotWant(15, ACK, 15);
        rangeAndNotWant(16, NAK, 15);
        rangeAndNotWant(65535, NAK, 15);
        absent();
        rejected();
        nakked();
        acceptable();
        magic();
        magicGoesUp(5, 9);
        magicGoesUp(5, 6);
        magicGoesUp(0, 1);
        magicGoesUp(0, 65535);
        magicGoesUp(65534, 65535);
        magicInTheMidst();
        magicNotIncluded();
        tooManyNaks();
        tooManyMagics();
        rejectsDoNotCount();
        Check.end();
    }
}
