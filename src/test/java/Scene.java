/** Ways to bring a negotiator to where a test begins. Peer 0 is the one under test. */
final class Scene {
    static final int MAX_CONFIGURE = 10;
    static final int MAX_TERMINATE = 2;
    static final int MAX_FAILURE = 5;
    static final int RESTART_TICKS = 3;

    private Scene() {
    }

    static PppNegotiator fresh() {
        return new PppNegotiator(MAX_CONFIGURE, MAX_TERMINATE, MAX_FAILURE, RESTART_TICKS);
    }

    /** Without magic numbers both first requests are acceptable as they stand: MRU 1500, COMP 15. */
    static PppNegotiator withoutMagic() {
        PppNegotiator x = fresh();
        x.setRange(0, PppNegotiator.OPT_MAGIC, 1, 0);
        x.setRange(1, PppNegotiator.OPT_MAGIC, 1, 0);
        return x;
    }

    /** Peer 0 in the given state, both wires empty; peer 1 has taken part where it had to. */
    static PppNegotiator in(int state) {
        PppNegotiator x = withoutMagic();
        bring(x, state);
        empty(x, 0);
        empty(x, 1);
        Check.due("the scene's state", x.peerInfo(0, PppNegotiator.INFO_STATE), state);
        return x;
    }

    /** Both peers in state 9, both wires empty. */
    static PppNegotiator bothOpened() {
        PppNegotiator x = withoutMagic();
        bring(x, 9);
        deliverAll(x, 0);
        Check.due("the other peer's state", x.peerInfo(1, PppNegotiator.INFO_STATE), 9);
        return x;
    }

    /** What is on the wires already stays there. */
    static void bring(PppNegotiator x, int state) {
        switch (state) {
            case 0:
                break;
            case 1:
                x.open(0);
                break;
            case 2:
                x.up(0);
                break;
            case 3:
                x.up(0);
                x.open(0);
                for (int i = 0; i < MAX_CONFIGURE * RESTART_TICKS; i++) {
                    x.tick();
                }
                break;
            case 4:
                x.up(0);
                x.open(0);
                x.close(0);
                break;
            case 5:
                x.up(0);
                x.open(0);
                x.close(0);
                x.open(0);
                break;
            case 6:
                x.up(0);
                x.open(0);
                break;
            default:
                negotiate(x, state);
                break;
        }
    }

    private static void negotiate(PppNegotiator x, int state) {
        x.up(0);
        x.open(0);
        x.up(1);
        x.open(1);
        if (state == 8) {
            deliverCode(x, 1, PppNegotiator.CODE_CONF_REQ);
            return;
        }
        deliverCode(x, 0, PppNegotiator.CODE_CONF_REQ);
        if (state == 9) {
            deliverCode(x, 1, PppNegotiator.CODE_CONF_REQ);
        }
        deliverCode(x, 1, PppNegotiator.CODE_CONF_ACK);
    }

    /**
     * Peer 0 has sent request 1 (MRU 1500, COMP 15); on wire 1 wait an Ack, a Nak (COMP 9) and a
     * Reject (COMP 15) of it, in this order. Peer 1 gives all three by going down in between.
     */
    static PppNegotiator withAnswers() {
        PppNegotiator x = withoutMagic();
        x.up(0);
        x.open(0);
        x.duplicate(0);
        x.duplicate(0);
        x.open(1);
        for (int[] range : new int[][] {{0, 15}, {0, 9}, {1, 0}}) {
            x.setRange(1, PppNegotiator.OPT_COMP, range[0], range[1]);
            x.up(1);
            find(x, 1, PppNegotiator.CODE_CONF_REQ);
            x.drop(1);
            x.deliver(0);
            x.down(1);
        }
        find(x, 1, PppNegotiator.CODE_CONF_ACK);
        Check.due("answers", x.wireSize(1), 3);
        Check.message("answer", x, 1, 0, 2, 1, 0, 1500, -1, -1, 15);
        Check.message("answer", x, 1, 1, 3, 1, 0, -1, -1, -1, 9);
        Check.message("answer", x, 1, 2, 4, 1, 0, -1, -1, -1, 15);
        return x;
    }

    /** The same in states 2..9: peer 0 sends no other request, so the answers stay valid. */
    static PppNegotiator withAnswersIn(int state) {
        PppNegotiator x = withAnswers();
        if (state <= 5) {
            x.close(0);
            if (state == 3 || state == 5) {
                x.open(0);
            }
            if (state <= 3) {
                ticks(x, MAX_TERMINATE * RESTART_TICKS);
            }
        }
        if (state == 7 || state == 9) {
            x.duplicate(1);
            x.deliver(1);
        }
        if (state == 8 || state == 9) {
            x.setRange(1, PppNegotiator.OPT_COMP, 0, 15);
            x.up(1);
            deliverCode(x, 1, PppNegotiator.CODE_CONF_REQ);
            x.down(1);
        }
        empty(x, 0);
        Check.peer("before", x, 0, PppNegotiator.INFO_STATE, state, PppNegotiator.INFO_CR_ID, 1);
        return x;
    }

    /** A message of that code alone on wire 1, with wire 0 empty and both peers back in state 0. */
    static PppNegotiator carrying(int code) {
        PppNegotiator x = withMessage(code);
        for (int p = 0; p < 2; p++) {
            x.down(p);
            x.close(p);
            Check.peer("a peer that rests", x, p, PppNegotiator.INFO_STATE, 0);
        }
        empty(x, 0);
        find(x, 1, code);
        for (int others = x.wireSize(1) - 1; others > 0; others--) {
            x.rotate(1);
            x.drop(1);
            find(x, 1, code);
        }
        Check.due("alone on the wire", x.wireSize(1), 1);
        return x;
    }

    private static PppNegotiator withMessage(int code) {
        PppNegotiator x;
        switch (code) {
            case PppNegotiator.CODE_CONF_REQ:
            case PppNegotiator.CODE_TERM_REQ:
                x = withoutMagic();
                x.up(1);
                x.open(1);
                x.close(1);
                break;
            case PppNegotiator.CODE_CONF_ACK:
            case PppNegotiator.CODE_CONF_NAK:
            case PppNegotiator.CODE_CONF_REJ:
                x = withAnswers();
                break;
            case PppNegotiator.CODE_TERM_ACK:
                x = withoutMagic();
                x.up(0);
                x.open(0);
                x.up(1);
                x.deliver(0);
                break;
            case PppNegotiator.CODE_ECHO_REQ:
                x = bothOpened();
                x.echo(1);
                break;
            case PppNegotiator.CODE_ECHO_REP:
                x = bothOpened();
                x.echo(0);
                x.deliver(0);
                break;
            default:
                x = withoutMagic();
                x.inject(1, code, 1);
                break;
        }
        return x;
    }

    /** Both peers opened with echoes missed, and messages of several kinds on both wires. */
    static PppNegotiator busy() {
        PppNegotiator x = bothOpened();
        for (int p = 0; p < 2; p++) {
            x.echo(p);
            x.inject(p, 8, 5);
            x.inject(p, PppNegotiator.CODE_CODE_REJ, 3);
        }
        return x;
    }

    /** Turns the wire until a message of that code is its head. */
    static void find(PppNegotiator x, int dir, int code) {
        for (int i = 1; i < PppNegotiator.WIRE_CAP
                && x.wireInfo(dir, 0, PppNegotiator.W_CODE) != code; i++) {
            x.rotate(dir);
        }
        Check.due("code at the head", x.wireInfo(dir, 0, PppNegotiator.W_CODE), code);
    }

    static void deliverCode(PppNegotiator x, int dir, int code) {
        find(x, dir, code);
        x.deliver(dir);
    }

    /** A first or a new Configure-Request of peer 1, asking for that MRU, alone on wire 1. */
    static void requestOfPeer1(PppNegotiator x, int mru) {
        if (x.peerInfo(1, PppNegotiator.INFO_STATE) == 0) {
            x.open(1);
        } else {
            x.down(1);
        }
        x.setRange(1, PppNegotiator.OPT_MRU, 64, mru);
        empty(x, 1);
        x.up(1);
        Check.due("the request's MRU", x.wireInfo(1, 0, PppNegotiator.W_OPT), mru);
    }

    // The loops below count, so that a broken program makes a test fail and not hang.

    static void empty(PppNegotiator x, int dir) {
        for (int i = 0; i < PppNegotiator.WIRE_CAP; i++) {
            x.drop(dir);
        }
        Check.due("an emptied wire", x.wireSize(dir), 0);
    }

    static void fill(PppNegotiator x, int dir) {
        for (int i = 0; i < PppNegotiator.WIRE_CAP; i++) {
            x.inject(dir, PppNegotiator.CODE_DISCARD, 0);
        }
        Check.due("a filled wire", x.wireSize(dir), PppNegotiator.WIRE_CAP);
    }

    static void deliverAll(PppNegotiator x, int dir) {
        for (int i = 0; i < PppNegotiator.WIRE_CAP; i++) {
            x.deliver(dir);
        }
        Check.due("a wire with all delivered", x.wireSize(dir), 0);
    }

    static void ticks(PppNegotiator x, int count) {
        for (int i = 0; i < count; i++) {
            x.tick();
        }
    }
}
