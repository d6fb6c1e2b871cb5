/** Promise 8 and all that send: the shared terms 'Wires and messages'. */
public final class P08WiresTest {
    private static final String WHERE = "Wires and messages";

    /** Requests of a peer and messages fed in stand in the order of their age, eight at most. */
    private static void queue() {
        Check.sentence(WHERE,
            "Each wire is a queue of at most WIRE_CAP messages; position 0 is the head (the oldest).");
        for (int p = 0; p < 2; p++) {
            PppNegotiator x = new PppNegotiator(10, 1, 1, 1);
            x.up(p);
            x.open(p);
            for (int i = 1; i < 4; i++) {
                x.inject(p, 20, i);
                x.tick();
            }
            x.inject(p, 20, 4);
            Check.due("full", x.wireSize(p), 8);
            for (int i = 0; i < 4; i++) {
                Check.message("request", x, p, 2 * i, 1, i + 1, 0, 1500, -1, 65535, 15);
                Check.message("fed in", x, p, 2 * i + 1, 20, 0, i + 1, -1, -1, -1, -1);
            }
            int[] wire = Check.wire(x, p);
            x.tick();
            Check.peer("a ninth is sent", x, p, PppNegotiator.INFO_NEXT_ID, 5);
            Check.same("a ninth is lost", Check.wire(x, p), wire);
            Check.due("no position 8", x.wireInfo(p, 8, PppNegotiator.W_CODE), -1);
            Check.due("the other wire", x.wireSize(1 - p), 0);
        }
    }

    /** A place that became free is filled at the tail, also after the head has moved on. */
    private static void tail() {
        Check.sentence(WHERE, "Sending appends at the tail.");
        for (int p = 0; p < 2; p++) {
            PppNegotiator x = new PppNegotiator(10, 1, 1, 1);
            x.up(p);
            x.open(p);
            Scene.ticks(x, 7);
            Check.due("full", x.wireSize(p), 8);
            for (int id = 9; id <= 10; id++) {
                x.drop(p);
                x.tick();
                Check.due("full again", x.wireSize(p), 8);
                Check.message("head", x, p, 0, 1, id - 7, 0, 1500, -1, 65535, 15);
                Check.message("tail", x, p, 7, 1, id, 0, 1500, -1, 65535, 15);
            }
        }
    }

    private static void ownWire() {
        Check.sentence(WHERE, "Every message peer p sends is appended to wire p.");
        for (int p = 0; p < 2; p++) {
            PppNegotiator x = Scene.fresh();
            x.up(p);
            x.open(p);
            x.close(p);
            Check.due("its own wire", x.wireSize(p), 2);
            Check.due("the other wire", x.wireSize(1 - p), 0);
        }
    }

    /** Calls that do not take messages away leave all of them, in every state. */
    private static void stay(int state) {
        Check.sentence(WHERE, "Messages leave a wire only by deliver, drop and rotate.");
        for (int call = 0; call < 9; call++) {
            PppNegotiator x = Scene.in(state);
            if (state == 9 && call == 8) {
                for (int i = 0; i < PppNegotiator.ECHO_LIMIT; i++) {
                    x.echo(0);
                }
                Scene.empty(x, 0);
            }
            for (int i = 0; i < 8; i++) {
                x.inject(0, 20 + i, i);
                x.inject(1, 30 + i, i);
            }
            int[] wire0 = Check.wire(x, 0);
            int[] wire1 = Check.wire(x, 1);
            make(x, call);
            String what = "call " + call + " in state " + state;
            Check.same(what + ": wire 0", Check.wire(x, 0), wire0);
            Check.same(what + ": wire 1", Check.wire(x, 1), wire1);
        }
    }

    private static void make(PppNegotiator x, int call) {
        switch (call) {
            case 0 -> x.setRange(0, 0, 1, 0);
            case 1 -> x.open(0);
            case 2 -> x.close(0);
            case 3 -> x.up(0);
            case 4 -> x.down(0);
            case 5 -> Scene.ticks(x, 40);
            case 6 -> x.inject(0, 8, 0);
            case 7 -> x.duplicate(0);
            default -> x.echo(0);
        }
    }

    /** The least and the greatest value are values; they go there and back as they are. */
    private static void fields() {
        Check.sentence(WHERE, "An option field is NONE (-1) when the option is absent, else a value"
            + " in 0..VALUE_MAX.");
        PppNegotiator x = Scene.fresh();
        int[] asked = {0, 65535, -1, 0};
        for (int o = 0; o < 4; o++) {
            x.setRange(0, o, asked[o] < 0 ? 1 : asked[o], asked[o] < 0 ? 0 : asked[o]);
            x.setRange(1, o, 0, 65535);
        }
        x.up(0);
        x.open(0);
        x.up(1);
        x.open(1);
        x.drop(1);
        Check.message("request", x, 0, 0, 1, 1, 0, 0, 65535, -1, 0);
        x.deliver(0);
        Check.message("ack", x, 1, 0, 2, 1, 0, 0, 65535, -1, 0);
        Check.options("remote", x, 1, PppNegotiator.OI_REMOTE, 0, 65535, -1, 0);
        x.deliver(1);
        Check.options("local", x, 0, PppNegotiator.OI_LOCAL, 0, 65535, -1, 0);
    }

    private static void head(String what, PppNegotiator x, int dir, int code, int data) {
        Scene.find(x, dir, code);
        Check.due(what, x.wireInfo(dir, 0, PppNegotiator.W_DATA), data);
    }

    private static void data() {
        Check.sentence(WHERE, "Messages made by the peers have data 0, except Code-Reject, whose"
            + " data is the rejected code.");
        for (int code : new int[] {1, 2, 3, 4, 5, 6, 9, 10}) {
            head("data of code " + code, Scene.carrying(code), 1, code, 0);
        }
        for (int code : new int[] {Integer.MIN_VALUE, -1, 0, 8, 12, 65536, Integer.MAX_VALUE}) {
            PppNegotiator x = Scene.in(2);
            x.inject(1, code, 77);
            x.deliver(1);
            head("data of a Code-Reject", x, 0, PppNegotiator.CODE_CODE_REJ, code);
        }
    }

    /** The data of what was received is not carried over into what comes after it. */
    private static void dataIsNotKept() {
        Check.sentence(WHERE, "Messages made by the peers have data 0, except Code-Reject, whose"
            + " data is the rejected code.");
        PppNegotiator x = Scene.bothOpened();
        x.inject(1, PppNegotiator.CODE_CODE_REJ, 7);
        x.deliver(1);
        Check.message("terminate request", x, 0, 0, 5, 2, 0, -1, -1, -1, -1);
    }

    public static void main(String[] args) {
        queue();
        tail();
        ownWire();
        for (int state = 0; state <= 9; state++) {
            stay(state);
        }
        fields();
        data();
        dataIsNotKept();
        Check.end();
    }
}
