/** Ways to bring a negotiator to where a test begins. Peer 0 is the one under test. */
final class Scene {
    static final int MAX_CONFIGURE = 10;
    static final int MAX_TERMINATE = 2;
    static final int MAX_FAILURE = 5;
    static final int RESTART_TICKS = 3;

    private Scene() {
    }

    static PppNegotiator fresh() {
        return new PppNegotiator(MAX_CONFIGURE, MAX_TERMINATE, MAX_FAILURE, RESTART_TICKS);
    }

    /** Without magic numbers both first requests are acceptable as they stand: MRU 1500, COMP 15. */
    static PppNegotiator withoutMagic() {
        PppNegotiator x = fresh();
        x.setRange(0, PppNegotiator.OPT_MAGIC, 1, 0);
        x.setRange(1, PppNegotiator.OPT_MAGIC, 1, 0);
        return x;
    }

    /** Peer 0 in the given state, both wires empty; peer 1 has taken part where it had to. */
    static PppNegotiator in(int state) {
        PppNegotiator x = withoutMagic();
        bring(x, state);
        empty(x, 0);
        empty(x, 1);
        Check.due("the scene's state", x.peerInfo(0, PppNegotiator.INFO_STATE), state);
        return x;
    }

    /** Both peers in state 9, both wires empty. */
    static PppNegotiator bothOpened() {
        PppNegotiator x = withoutMagic();
        bring(x, 9);
        deliverAll(x, 0);
        Check.due("the other peer's state", x.peerInfo(1, PppNegotiator.INFO_STATE), 9);
        return x;
    }

    /** What is on the wires already stays there. */
    static void bring(PppNegotiator x, int state) {
        switch (state) {
            case 0:
                break;
            case 1:
                x.open(0);
                break;
            case 2:
                x.up(0);
                break;
            case 3:
                x.up(0);
                x.open(0);
                for (int i = 0; i < MAX_CONFIGURE * RESTART_TICKS; i++) {
                    x.tick();
                }
                break;
            case 4:
                x.up(0);
                x.open(0);
                x.close(0);
                break;
            case 5:
                x.up(0);
                x.open(0);
                x.close(0);
                x.open(0);
                break;
            case 6:
                x.up(0);
                x.open(0);
                break;
            default:
                negotiate(x, state);
                break;
        }
    }

    private static void negotiate(PppNegotiator x, int state) {
        x.up(0);
        x.open(0);
        x.up(1);
        x.open(1);
        if (state == 8) {
            deliverCode(x, 1, PppNegotiator.CODE_CONF_REQ);
            return;
        }
        deliverCode(x, 0, PppNegotiator.CODE_CONF_REQ);
        if (state == 9) {
            deliverCode(x, 1, PppNegotiator.CODE_CONF_REQ);
        }
        deliverCode(x, 1, PppNegotiator.CODE_CONF_ACK);
    }

    /** Turns the wire until a message of that code is its head. */
    static void find(PppNegotiator x, int dir, int code) {
        int turns = 0;
        while (turns < x.wireSize(dir) && x.wireInfo(dir, 0, PppNegotiator.W_CODE) != code) {
            x.rotate(dir);
            turns++;
        }
        Check.due("code at the head", x.wireInfo(dir, 0, PppNegotiator.W_CODE), code);
    }

    static void deliverCode(PppNegotiator x, int dir, int code) {
        find(x, dir, code);
        x.deliver(dir);
    }

    /** A first or a new Configure-Request of peer 1, asking for that MRU, alone on wire 1. */
    static void requestOfPeer1(PppNegotiator x, int mru) {
        if (x.peerInfo(1, PppNegotiator.INFO_STATE) == 0) {
            x.open(1);
        } else {
            x.down(1);
        }
        x.setRange(1, PppNegotiator.OPT_MRU, 64, mru);
        empty(x, 1);
        x.up(1);
        Check.due("the request's MRU", x.wireInfo(1, 0, PppNegotiator.W_OPT), mru);
    }

    static void empty(PppNegotiator x, int dir) {
        while (x.wireSize(dir) > 0) {
            x.drop(dir);
        }
    }

    static void fill(PppNegotiator x, int dir) {
        while (x.wireSize(dir) < PppNegotiator.WIRE_CAP) {
            x.inject(dir, PppNegotiator.CODE_DISCARD, 0);
        }
    }

    static void deliverAll(PppNegotiator x, int dir) {
        while (x.wireSize(dir) > 0) {
            x.deliver(dir);
        }
    }

    static void ticks(PppNegotiator x, int count) {
        for (int i = 0; i < count; i++) {
            x.tick();
        }
    }
}
