/** Promise 8, codes 2, 3 and 4: Ack, Nak and Reject, valid or not, in every state of peer 0. */
public final class P08AnswerTest {
    /**
     * Peer 0 has sent request 1 (MRU 1500, COMP 15); on wire 1 wait an Ack, a Nak (COMP 9) and a
     * Reject (COMP 15) of it, in this order. Peer 1 gives all three by going down in between.
     */
    private static PppNegotiator withAnswers() {
        PppNegotiator x = Scene.withoutMagic();
        x.up(0);
        x.open(0);
        x.duplicate(0);
        x.duplicate(0);
        x.open(1);
        for (int[] range : new int[][] {{0, 15}, {0, 9}, {1, 0}}) {
            x.setRange(1, PppNegotiator.OPT_COMP, range[0], range[1]);
            x.up(1);
            Scene.find(x, 1, 1);
            x.drop(1);
            x.deliver(0);
            x.down(1);
        }
        while (x.wireInfo(1, 0, PppNegotiator.W_CODE) != 2) {
            x.rotate(1);
        }
        Check.due("answers", x.wireSize(1), 3);
        Check.message("answer", x, 1, 0, 2, 1, 0, 1500, -1, -1, 15);
        Check.message("answer", x, 1, 1, 3, 1, 0, -1, -1, -1, 9);
        Check.message("answer", x, 1, 2, 4, 1, 0, -1, -1, -1, 15);
        return x;
    }

    /** Peer 0 moves on without another Configure-Request, so the answers stay valid. */
    private static PppNegotiator withAnswersIn(int state) {
        PppNegotiator x = withAnswers();
        if (state <= 5) {
            x.close(0);
            if (state == 3 || state == 5) {
                x.open(0);
            }
            if (state <= 3) {
                Scene.ticks(x, Scene.MAX_TERMINATE * Scene.RESTART_TICKS);
            }
        }
        if (state == 7 || state == 9) {
            x.duplicate(1);
            x.deliver(1);
        }
        if (state == 8 || state == 9) {
            x.setRange(1, PppNegotiator.OPT_COMP, 0, 15);
            x.up(1);
            Scene.deliverCode(x, 1, 1);
            x.down(1);
        }
        Scene.empty(x, 0);
        Check.peer("before", x, 0, PppNegotiator.INFO_STATE, state, PppNegotiator.INFO_CR_ID, 1);
        return x;
    }

    /** State due, then ups, downs and restart due; the codes sent. */
    private static PppNegotiator answer(int code, int state, int[] due, int... codes) {
        PppNegotiator x = withAnswersIn(state);
        int nextId = x.peerInfo(0, PppNegotiator.INFO_NEXT_ID);
        String what = "answer " + code + " in state " + state;
        Scene.find(x, 1, code);
        Check.due(what, x.deliver(1), code);
        Check.peer(what, x, 0, PppNegotiator.INFO_STATE, due[0], PppNegotiator.INFO_UPS, due[1],
            PppNegotiator.INFO_DOWNS, due[2], PppNegotiator.INFO_RESTART, due[3],
            PppNegotiator.INFO_TIMER, due[0] >= 4 && due[0] <= 8 ? 3 : 0);
        Check.due(what + ": messages", x.wireSize(0), codes.length);
        for (int pos = 0; pos < codes.length; pos++) {
            if (codes[pos] == 6) {
                Check.message(what, x, 0, pos, 6, 1, 0, -1, -1, -1, -1);
            } else {
                int comp = code == 2 ? 15 : code == 3 ? 9 : -1;
                Check.message(what, x, 0, pos, 1, nextId + 1, 0, 1500, -1, -1, comp);
                Check.options(what, x, 0, PppNegotiator.OI_SENT, 1500, -1, -1, comp);
                Check.peer(what, x, 0, PppNegotiator.INFO_CR_ID, nextId + 1);
            }
        }
        return x;
    }

    private static int[] row(int... numbers) {
        return numbers;
    }

    private static void acks() {
        answer(2, 2, row(2, 0, 0, 0), 6);
        answer(2, 3, row(3, 0, 0, 0), 6);
        answer(2, 4, row(4, 0, 0, 1));
        PppNegotiator x = answer(2, 5, row(5, 0, 0, 1));
        Check.options("no local in state 5", x, 0, PppNegotiator.OI_LOCAL, -1, -1, -1, -1);
        x = answer(2, 6, row(7, 0, 0, 10));
        Check.options("local in state 6", x, 0, PppNegotiator.OI_LOCAL, 1500, -1, -1, 15);
        answer(2, 7, row(6, 0, 0, 9), 1);
        x = answer(2, 8, row(9, 1, 0, 10));
        Check.options("local in state 8", x, 0, PppNegotiator.OI_LOCAL, 1500, -1, -1, 15);
        answer(2, 9, row(6, 1, 1, 9), 1);
    }

    private static void refusals() {
        for (int code = 3; code <= 4; code++) {
            answer(code, 2, row(2, 0, 0, 0), 6);
            answer(code, 3, row(3, 0, 0, 0), 6);
            answer(code, 4, row(4, 0, 0, 1));
            answer(code, 5, row(5, 0, 0, 1));
            answer(code, 6, row(6, 0, 0, 9), 1);
            answer(code, 7, row(6, 0, 0, 9), 1);
            answer(code, 8, row(8, 0, 0, 9), 1);
            answer(code, 9, row(6, 1, 1, 9), 1);
        }
    }

    /** In states that do not adopt, want and included stay. */
    private static void notAdopted() {
        for (int state = 2; state <= 5; state++) {
            for (int code = 3; code <= 4; code++) {
                PppNegotiator x = withAnswersIn(state);
                Scene.deliverCode(x, 1, code);
                Check.options("state " + state, x, 0, PppNegotiator.OI_WANT, 1500, 0, 0, 15);
                Check.options("state " + state, x, 0, PppNegotiator.OI_INCLUDED, 1, 0, 0, 1);
            }
        }
    }

    /** After a newer request the answers to the old one are discarded, whatever the state. */
    private static void oldIds() {
        for (int code = 2; code <= 4; code++) {
            PppNegotiator x = withAnswers();
            Scene.ticks(x, Scene.RESTART_TICKS);
            Check.peer("newer request", x, 0, PppNegotiator.INFO_CR_ID, 2);
            Scene.find(x, 1, code);
            x.deliver(1);
            Check.peer("old answer", x, 0, PppNegotiator.INFO_STATE, 6, PppNegotiator.INFO_CR_ID, 2,
                PppNegotiator.INFO_RESTART, 8);
            Check.options("old answer", x, 0, PppNegotiator.OI_LOCAL, -1, -1, -1, -1);
            Check.options("old answer", x, 0, PppNegotiator.OI_WANT, 1500, 0, 0, 15);
            Check.options("old answer", x, 0, PppNegotiator.OI_INCLUDED, 1, 0, 0, 1);
        }
    }

    /** A Nak's values are drawn into one's own range, from below and from above. */
    private static void adoptClamps(int lo, int hi, int otherLo, int otherHi, int wantDue) {
        PppNegotiator x = Scene.withoutMagic();
        x.setRange(0, PppNegotiator.OPT_COMP, lo, hi);
        x.setRange(1, PppNegotiator.OPT_COMP, otherLo, otherHi);
        for (int p = 0; p < 2; p++) {
            x.up(p);
            x.open(p);
        }
        x.deliver(0);
        Scene.deliverCode(x, 1, PppNegotiator.CODE_CONF_NAK);
        Check.options("adopted", x, 0, PppNegotiator.OI_WANT, 1500, 0, 0, wantDue);
        Check.options("adopted", x, 0, PppNegotiator.OI_INCLUDED, 1, 0, 0, 1);
        Check.options("asked for at once", x, 0, PppNegotiator.OI_SENT, 1500, -1, -1, wantDue);
    }

    public static void main(String[] args) {
        acks();
        refusals();
        notAdopted();
        oldIds();
        adoptClamps(0, 15, 3, 9, 9);
        adoptClamps(5, 15, 3, 9, 9);
        adoptClamps(10, 15, 3, 9, 10);
        adoptClamps(0, 2, 3, 9, 2);
        adoptClamps(3, 3, 0, 0, 3);
        Check.end();
    }
}
