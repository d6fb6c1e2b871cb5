/** Promise 8: deliver itself. What the receiver does with each code has tests of its own. */
public final class P08DeliverTest {
    private static final String REFUSED =
        "Answers -1 and changes nothing if dir is not 0 or 1 or wire dir is empty.";
    private static final String DELIVERED = "Otherwise the head message m is removed from wire dir,"
        + " peer 1-dir performs RECEPTION of m, and the answer is m.code.";
    private static final String ALSO_DISCARDED = "The answer is m.code also when m is discarded.";
    private static final String RESPONSE = "Any messages sent in response go to wire 1-dir, subject"
        + " to the full-wire rule.";

    private static final int[] ALL_CODES = {1, 2, 3, 4, 5, 6, 7, 9, 10, 11,
        Integer.MIN_VALUE, -1, 0, 8, 12, Integer.MAX_VALUE};

    private static void noSuchWire() {
        Check.sentence("Promise 8", REFUSED);
        PppNegotiator x = Scene.busy();
        int[] before = Check.everything(x);
        for (int dir : Check.outside(0, 1)) {
            Check.due("deliver(" + dir + ")", x.deliver(dir), -1);
            Check.unchanged("deliver(" + dir + ")", x, before);
        }
    }

    /** Also when the other wire is full. */
    private static void emptyWire() {
        Check.sentence("Promise 8", REFUSED);
        for (int dir = 0; dir < 2; dir++) {
            PppNegotiator x = Scene.bothOpened();
            int[] before = Check.everything(x);
            Check.due("deliver(" + dir + ") of nothing", x.deliver(dir), -1);
            Check.unchanged("deliver(" + dir + ") of nothing", x, before);
            Scene.fill(x, 1 - dir);
            before = Check.everything(x);
            Check.due("deliver(" + dir + ") beside a full wire", x.deliver(dir), -1);
            Check.unchanged("deliver(" + dir + ") beside a full wire", x, before);
        }
    }

    /** Only the head leaves, and the others move up. */
    private static void oneAtATime() {
        Check.sentence("Promise 8", DELIVERED);
        PppNegotiator x = Scene.in(2);
        x.inject(1, 20, 1);
        x.inject(1, 21, 2);
        x.inject(1, 22, 3);
        Check.due("first", x.deliver(1), 20);
        Check.due("left", x.wireSize(1), 2);
        Check.message("left", x, 1, 0, 21, 0, 2, -1, -1, -1, -1);
        Check.message("left", x, 1, 1, 22, 0, 3, -1, -1, -1, -1);
        Check.due("answered", x.wireSize(0), 1);
        Check.due("second", x.deliver(1), 21);
        Check.due("third", x.deliver(1), 22);
        Check.due("no more", x.deliver(1), -1);
    }

    /** A full wire is emptied from its head, down to the last message. */
    private static void fromFullToEmpty() {
        Check.sentence("Promise 8", DELIVERED);
        for (int dir = 0; dir < 2; dir++) {
            PppNegotiator x = Scene.fresh();
            for (int i = 0; i < 8; i++) {
                x.inject(dir, 20 + i, i);
            }
            for (int i = 0; i < 8; i++) {
                Check.due("deliver", x.deliver(dir), 20 + i);
                Check.due("left", x.wireSize(dir), 7 - i);
            }
            Check.due("no more", x.deliver(dir), -1);
        }
    }

    /** Peer 1-dir receives; the sender of wire dir does not change. */
    private static void receiver() {
        Check.sentence("Promise 8", DELIVERED);
        for (int dir = 0; dir < 2; dir++) {
            PppNegotiator x = Scene.fresh();
            x.up(0);
            x.up(1);
            x.inject(dir, 8, 0);
            Check.due("deliver", x.deliver(dir), 8);
            Check.peer("the receiver", x, 1 - dir, PppNegotiator.INFO_NEXT_ID, 1);
            Check.peer("the sender", x, dir, PppNegotiator.INFO_NEXT_ID, 0);
        }
    }

    private static void inResponse() {
        Check.sentence("Promise 8", RESPONSE);
        for (int dir = 0; dir < 2; dir++) {
            PppNegotiator x = Scene.fresh();
            x.up(0);
            x.up(1);
            x.inject(dir, 8, 0);
            x.inject(1 - dir, 20, 21);
            x.deliver(dir);
            Check.due("nothing is left on wire dir", x.wireSize(dir), 0);
            Check.due("the response on the other", x.wireSize(1 - dir), 2);
            Check.message("ahead of it", x, 1 - dir, 0, 20, 0, 21, -1, -1, -1, -1);
            Check.message("the response", x, 1 - dir, 1, 7, 1, 8, -1, -1, -1, -1);
        }
    }

    /** The room that the message leaves on its own wire is none for the response. */
    private static void bothWiresFull() {
        Check.sentence("Promise 8", RESPONSE);
        for (int dir = 0; dir < 2; dir++) {
            PppNegotiator x = Scene.fresh();
            x.up(1 - dir);
            for (int i = 0; i < 8; i++) {
                x.inject(dir, 20 + i, i);
            }
            Scene.fill(x, 1 - dir);
            int[] other = Check.wire(x, 1 - dir);
            Check.due("deliver", x.deliver(dir), 20);
            Check.same("the full wire as before", Check.wire(x, 1 - dir), other);
            Check.due("one less on wire dir", x.wireSize(dir), 7);
            Check.message("moved up", x, dir, 6, 27, 0, 7, -1, -1, -1, -1);
            Check.peer("the lost response counts", x, 1 - dir, PppNegotiator.INFO_NEXT_ID, 1);
        }
    }

    /** In states 0 and 1 every message is discarded; only the wire changes. */
    private static void restingReceiver() {
        Check.sentence("RECEPTION of message m by peer p", "If p's state is 0 or 1, m is discarded.");
        for (int code : ALL_CODES) {
            for (int state = 0; state <= 1; state++) {
                PppNegotiator x = Scene.carrying(code);
                Scene.bring(x, state);
                int[] items = Check.items(x);
                x.deliver(1);
                String what = "code " + code + " in state " + state;
                Check.same(what + ": the same items", Check.items(x), items);
                Check.due(what + ": no response", x.wireSize(0), 0);
                Check.due(what + ": the message is gone", x.wireSize(1), 0);
            }
        }
    }

    private static void discarded() {
        Check.sentence("Promise 8", ALSO_DISCARDED);
        for (int code : ALL_CODES) {
            for (int state = 0; state <= 1; state++) {
                PppNegotiator x = Scene.carrying(code);
                Scene.bring(x, state);
                Check.due("code " + code + " in state " + state, x.deliver(1), code);
            }
        }
        for (int code = 2; code <= 4; code++) {
            PppNegotiator x = Scene.withAnswers();
            Scene.ticks(x, Scene.RESTART_TICKS);
            Scene.find(x, 1, code);
            Check.due("an answer to an old request", x.deliver(1), code);
        }
        PppNegotiator x = Scene.carrying(PppNegotiator.CODE_CONF_REQ);
        x.up(1);
        x.open(1);
        x.up(0);
        x.rotate(1);
        Check.due("a new request", x.deliver(1), 1);
        Check.peer("a new request", x, 0, PppNegotiator.INFO_HIGH_CR, 3);
        Check.due("an old request", x.deliver(1), 1);
        Check.due("one response, to the new one", x.wireSize(0), 1);
    }

    public static void main(String[] args) {
        noSuchWire();
        emptyWire();
        oneAtATime();
        fromFullToEmpty();
        receiver();
        inResponse();
        bothWiresFull();
        restingReceiver();
        discarded();
        Check.end();
    }
}
