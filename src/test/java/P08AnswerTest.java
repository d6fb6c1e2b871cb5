/** Promise 8, codes 2, 3 and 4: Ack, Nak and Reject, valid or not, in every state of peer 0. */
public final class P08AnswerTest {
    private static final String RECEPTION = "RECEPTION of message m by peer p";
    private static final String ADOPT = "ADOPT: if the received message is a Nak, for each option"
        + " present in it want = its value raised to lo if below lo, lowered to hi if above hi; if it"
        + " is a Reject, for each option present in it included = false.";

    /** State due, then ups, downs and restart due; the codes sent. */
    private static void answer(int code, int state, int[] due, int... codes) {
        Check.sentence("Transitions", code == 2 ? "RCA" : "RCN");
        PppNegotiator x = Scene.withAnswersIn(state);
        int nextId = x.peerInfo(0, PppNegotiator.INFO_NEXT_ID);
        String what = "answer " + code + " in state " + state;
        Scene.find(x, 1, code);
        Check.due(what, x.deliver(1), code);
        Check.peer(what, x, 0, PppNegotiator.INFO_STATE, due[0], PppNegotiator.INFO_UPS, due[1],
            PppNegotiator.INFO_DOWNS, due[2], PppNegotiator.INFO_RESTART, due[3],
            PppNegotiator.INFO_TIMER, due[0] >= 4 && due[0] <= 8 ? 3 : 0);
        Check.due(what + ": messages", x.wireSize(0), codes.length);
        for (int pos = 0; pos < codes.length; pos++) {
            if (codes[pos] == 6) {
                Check.message(what, x, 0, pos, 6, 1, 0, -1, -1, -1, -1);
            } else {
                int comp = code == 2 ? 15 : code == 3 ? 9 : -1;
                Check.message(what, x, 0, pos, 1, nextId + 1, 0, 1500, -1, -1, comp);
                Check.options(what, x, 0, PppNegotiator.OI_SENT, 1500, -1, -1, comp);
                Check.peer(what, x, 0, PppNegotiator.INFO_CR_ID, nextId + 1);
            }
        }
    }

    private static int[] row(int... numbers) {
        return numbers;
    }

    private static void acks() {
        answer(2, 2, row(2, 0, 0, 0), 6);
        answer(2, 3, row(3, 0, 0, 0), 6);
        answer(2, 4, row(4, 0, 0, 1));
        answer(2, 5, row(5, 0, 0, 1));
        answer(2, 6, row(7, 0, 0, 10));
        answer(2, 7, row(6, 0, 0, 9), 1);
        answer(2, 8, row(9, 1, 0, 10));
        answer(2, 9, row(6, 1, 1, 9), 1);
    }

    private static void refusals() {
        for (int code = 3; code <= 4; code++) {
            answer(code, 2, row(2, 0, 0, 0), 6);
            answer(code, 3, row(3, 0, 0, 0), 6);
            answer(code, 4, row(4, 0, 0, 1));
            answer(code, 5, row(5, 0, 0, 1));
            answer(code, 6, row(6, 0, 0, 9), 1);
            answer(code, 7, row(6, 0, 0, 9), 1);
            answer(code, 8, row(8, 0, 0, 9), 1);
            answer(code, 9, row(6, 1, 1, 9), 1);
        }
    }

    private static void localInStates6And8() {
        Check.sentence(RECEPTION, "Valid: in states 6 and 8 first local = sent; then event RCA.");
        for (int state = 2; state <= 8; state++) {
            if (state == 7) {
                continue; // the Ack that led to state 7 has set local already
            }
            PppNegotiator x = Scene.withAnswersIn(state);
            Check.options("before", x, 0, PppNegotiator.OI_LOCAL, -1, -1, -1, -1);
            Scene.deliverCode(x, 1, PppNegotiator.CODE_CONF_ACK);
            boolean set = state == 6 || state == 8;
            Check.options("local after state " + state, x, 0, PppNegotiator.OI_LOCAL,
                set ? 1500 : -1, -1, -1, set ? 15 : -1);
        }
    }

    /** In states 4 and 5 not a single item changes. */
    private static void statesNotListed() {
        Check.sentence("Transitions", "A state not listed for an event keeps its state and does"
            + " nothing; without -> the state stays.");
        for (int state = 4; state <= 5; state++) {
            for (int code = 2; code <= 4; code++) {
                PppNegotiator x = Scene.withAnswersIn(state);
                int[] items = Check.items(x);
                Scene.deliverCode(x, 1, code);
                String what = "answer " + code + " in state " + state;
                Check.same(what + ": the same items", Check.items(x), items);
                Check.due(what + ": messages", x.wireSize(0), 0);
            }
        }
    }

    /** In states 2 and 3 a valid answer brings a Terminate-Ack, and no item changes. */
    private static void onlyATerminateAck() {
        Check.sentence("Transitions", "2: sta; 3: sta");
        for (int state = 2; state <= 3; state++) {
            for (int code = 2; code <= 4; code++) {
                PppNegotiator x = Scene.withAnswersIn(state);
                int[] items = Check.items(x);
                Scene.deliverCode(x, 1, code);
                String what = "answer " + code + " in state " + state;
                Check.same(what + ": the same items", Check.items(x), items);
                Check.due(what + ": messages", x.wireSize(0), 1);
            }
        }
    }

    /**
     * After a newer request the answers to the old one are discarded, in all the states 2..9, and
     * also if the newer request asks for the very same values.
     */
    private static void oldIds(int code, String words) {
        Check.sentence(RECEPTION, words);
        for (int state = 2; state <= 9; state++) {
            for (int mru : new int[] {1500, 1400}) {
                PppNegotiator x = withOldAnswer(code, mru);
                bringBesideAnswer(x, state);
                Check.peer("before", x, 0, PppNegotiator.INFO_STATE, state);
                Scene.empty(x, 0);
                findOld(x, code);
                int[] items = Check.items(x);
                String what = "an old answer " + code + " in state " + state + ", MRU " + mru;
                Check.due(what, x.deliver(1), code);
                Check.same(what + ": the same items", Check.items(x), items);
                Check.due(what + ": no response", x.wireSize(0), 0);
            }
        }
    }

    /** An answer to request 1 of peer 0, which has sent another request since; both rest. */
    private static PppNegotiator withOldAnswer(int code, int mru) {
        PppNegotiator x = Scene.carrying(code);
        x.setRange(1, PppNegotiator.OPT_COMP, 0, 15);
        x.setRange(0, PppNegotiator.OPT_MRU, 64, mru);
        x.setRange(1, PppNegotiator.OPT_MRU, 64, mru);
        x.up(0);
        x.open(0);
        x.down(0);
        x.close(0);
        Scene.empty(x, 0);
        return x;
    }

    /** The old answer waits at the head while newer messages go past it. */
    private static void bringBesideAnswer(PppNegotiator x, int state) {
        if (state <= 6) {
            Scene.bring(x, state);
            return;
        }
        for (int p = 0; p < 2; p++) {
            x.up(p);
            x.open(p);
        }
        x.rotate(1);
        if (state >= 8) {
            x.deliver(1);
        } else {
            x.drop(1);
        }
        if (state != 8) {
            Scene.deliverCode(x, 0, PppNegotiator.CODE_CONF_REQ);
            x.rotate(1);
            x.deliver(1);
        }
    }

    private static void findOld(PppNegotiator x, int code) {
        Scene.find(x, 1, code);
        Check.due("the id of the old answer", x.wireInfo(1, 0, PppNegotiator.W_ID), 1);
        Check.due("a newer request", x.peerInfo(0, PppNegotiator.INFO_CR_ID) > 1, true);
    }

    /** A Nak's values are drawn into one's own range, from below and from above. */
    private static void adoptNak(int lo, int hi, int otherLo, int otherHi, int wantDue) {
        Check.sentence("Actions of peer p", ADOPT);
        PppNegotiator x = Scene.withoutMagic();
        x.setRange(0, PppNegotiator.OPT_COMP, lo, hi);
        x.setRange(1, PppNegotiator.OPT_COMP, otherLo, otherHi);
        for (int p = 0; p < 2; p++) {
            x.up(p);
            x.open(p);
        }
        x.deliver(0);
        Scene.deliverCode(x, 1, PppNegotiator.CODE_CONF_NAK);
        Check.options("adopted", x, 0, PppNegotiator.OI_WANT, 1500, 0, 0, wantDue);
        Check.options("adopted", x, 0, PppNegotiator.OI_INCLUDED, 1, 0, 0, 1);
        Check.options("asked for at once", x, 0, PppNegotiator.OI_SENT, 1500, -1, -1, wantDue);
    }

    /** Each number is the peer's lo and hi, the other's lo and hi, and what the Nak leads to. */
    private static void adoptNaks() {
        adoptNak(0, 15, 3, 9, 9);
        adoptNak(8, 15, 3, 9, 9);
        adoptNak(9, 15, 3, 9, 9);
        adoptNak(10, 15, 3, 9, 10);
        adoptNak(0, 2, 3, 9, 2);
        adoptNak(2, 2, 3, 9, 2);
        adoptNak(3, 3, 0, 0, 3);
        adoptNak(0, 15, 0, 0, 0);
        adoptNak(1, 15, 0, 0, 1);
        adoptNak(0, 65534, 65535, 65535, 65534);
        adoptNak(65535, 65535, 0, 65534, 65535);
        adoptNak(0, 65535, 0, 65534, 65534);
    }

    /** A second Nak is drawn into the range, not below what the first Nak (COMP 9) left wanted. */
    private static void adoptSecondNak(int otherLo, int otherHi, int wantDue) {
        Check.sentence("Actions of peer p", ADOPT);
        PppNegotiator x = Scene.withAnswers();
        Scene.deliverCode(x, 1, PppNegotiator.CODE_CONF_NAK);
        Check.options("the first Nak", x, 0, PppNegotiator.OI_SENT, 1500, -1, -1, 9);
        x.setRange(1, PppNegotiator.OPT_COMP, otherLo, otherHi);
        Scene.empty(x, 1);
        x.up(1);
        x.deliver(0);
        Scene.deliverCode(x, 1, PppNegotiator.CODE_CONF_NAK);
        Check.options("the second Nak", x, 0, PppNegotiator.OI_WANT, 1500, 0, 0, wantDue);
        Check.options("the second Nak", x, 0, PppNegotiator.OI_SENT, 1500, -1, -1, wantDue);
    }

    /** An option that the refusal does not name keeps both want and included. */
    private static void onlyTheNamed() {
        Check.sentence("Actions of peer p", ADOPT);
        PppNegotiator x = Scene.withAnswers();
        Scene.deliverCode(x, 1, PppNegotiator.CODE_CONF_NAK);
        Check.options("a Nak of COMP", x, 0, PppNegotiator.OI_WANT, 1500, 0, 0, 9);
        Check.options("a Nak of COMP", x, 0, PppNegotiator.OI_INCLUDED, 1, 0, 0, 1);
        x = Scene.withAnswers();
        Scene.deliverCode(x, 1, PppNegotiator.CODE_CONF_REJ);
        Check.options("a Reject of COMP", x, 0, PppNegotiator.OI_WANT, 1500, 0, 0, 15);
        Check.options("a Reject of COMP", x, 0, PppNegotiator.OI_INCLUDED, 1, 0, 0, 0);
    }

    /** A Nak may suggest what was asked for; it is still one answer, and one to a Nak. */
    private static void nakOfTheSameValue(int state, int code) {
        Check.sentence(RECEPTION, "3: valid only if m.id == crId and every option present in m is"
            + " not NONE in sent; then RCN.");
        PppNegotiator x = Scene.fresh();
        for (int p = 0; p < 2; p++) {
            x.setRange(p, PppNegotiator.OPT_MAGIC, 5, 5);
            x.up(p);
            x.open(p);
        }
        Scene.empty(x, 1);
        x.deliver(0);
        Check.message("the only number there is", x, 1, 0, 3, 1, 0, -1, -1, 5, -1);
        if (state < 6) {
            x.close(0);
            if (state == 3) {
                x.open(0);
            }
            Scene.ticks(x, Scene.MAX_TERMINATE * Scene.RESTART_TICKS);
        }
        Scene.find(x, 1, PppNegotiator.CODE_CONF_NAK);
        Scene.empty(x, 0);
        Check.peer("before", x, 0, PppNegotiator.INFO_STATE, state);
        x.deliver(1);
        Check.peer("after", x, 0, PppNegotiator.INFO_STATE, state);
        Check.due("one message", x.wireSize(0), 1);
        Check.due("one message", x.wireInfo(0, 0, PppNegotiator.W_CODE), code);
        Check.options("still wanted", x, 0, PppNegotiator.OI_WANT, 1500, 0, 5, 15);
        Check.options("still asked for", x, 0, PppNegotiator.OI_INCLUDED, 1, 0, 1, 1);
    }

    /** When all is rejected, the next request asks for nothing, and that is a good one. */
    private static void allRejected() {
        Check.sentence("Actions of peer p", ADOPT);
        PppNegotiator x = Scene.fresh();
        for (int o = 0; o < 4; o++) {
            x.setRange(0, o, 7, 7);
            x.setRange(1, o, 1, 0);
        }
        for (int p = 0; p < 2; p++) {
            x.up(p);
            x.open(p);
        }
        x.drop(1);
        x.deliver(0);
        Check.message("rejected", x, 1, 0, 4, 1, 0, 7, 7, 7, 7);
        x.deliver(1);
        Check.message("nothing asked", x, 0, 0, 1, 2, 0, -1, -1, -1, -1);
        x.deliver(0);
        Check.message("acknowledged", x, 1, 0, 2, 2, 0, -1, -1, -1, -1);
        x.deliver(1);
        Check.peer("acknowledged", x, 0, PppNegotiator.INFO_STATE, 7);
        Check.options("acknowledged", x, 0, PppNegotiator.OI_LOCAL, -1, -1, -1, -1);
    }

    private static void fullWires() {
        int[][] sends = {{1, 1, 0, 0, 0, 1, 0, 1}, {1, 1, 0, 0, 1, 1, 1, 1}};
        for (int code = 2; code <= 4; code++) {
            for (int state = 2; state <= 9; state++) {
                int in = state;
                int which = code;
                FullWire.loses("answer " + code + " in state " + state,
                    sends[code == 2 ? 0 : 1][state - 2], () -> {
                        PppNegotiator x = Scene.withAnswersIn(in);
                        Scene.find(x, 1, which);
                        return x;
                    }, x -> x.deliver(1));
            }
        }
    }

    public static void main(String[] args) {
        acks();
        refusals();
        localInStates6And8();
        statesNotListed();
        onlyATerminateAck();
        oldIds(2, "2: valid only if m.id == crId and all four option fields equal sent; an invalid"
            + " one is discarded.");
        oldIds(3, "3: valid only if m.id == crId and every option present in m is not NONE in sent;"
            + " then RCN.");
        oldIds(4, "4: valid only if m.id == crId and every option present in m equals its sent"
            + " value; then RCN.");
        adoptNaks();
        adoptSecondNak(0, 8, 8);
        adoptSecondNak(10, 20, 10);
        adoptSecondNak(15, 20, 15);
        adoptSecondNak(16, 20, 15);
        onlyTheNamed();
        nakOfTheSameValue(2, 6);
        nakOfTheSameValue(3, 6);
        nakOfTheSameValue(6, 1);
        allRejected();
        fullWires();
        Check.end();
    }
}
