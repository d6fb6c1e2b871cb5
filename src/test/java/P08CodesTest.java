/** Promise 8: Code-Reject, keepalive codes and unknown codes in every state of peer 0. */
public final class P08CodesTest {
    private static final String OTHER = "Any other code (8 included): RUC.";

    private static void unknownCode(int code) {
        Check.sentence("RECEPTION of message m by peer p", OTHER);
        for (int state = 2; state <= 9; state++) {
            PppNegotiator x = Scene.in(state);
            int id = x.peerInfo(0, PppNegotiator.INFO_NEXT_ID) + 1;
            int[] due = Check.items(x);
            due[PppNegotiator.INFO_NEXT_ID] = id;
            x.inject(1, code, 99);
            String what = "code " + code + " in state " + state;
            Check.due(what, x.deliver(1), code);
            Check.same(what + ": no other item changes", Check.items(x), due);
            Check.due(what + ": messages", x.wireSize(0), 1);
            Check.message(what, x, 0, 0, 7, id, code, -1, -1, -1, -1);
        }
    }

    /** RXJ-, by the state before: the state after. */
    private static void graveReject(int rejected) {
        Check.sentence("RECEPTION of message m by peer p", "7: RXJ- if 1 <= m.data <= 7, else RXJ+.");
        int[] after = {0, 0, 2, 3, 2, 3, 3, 3, 3, 5};
        for (int state = 2; state <= 9; state++) {
            PppNegotiator x = Scene.in(state);
            int nextId = x.peerInfo(0, PppNegotiator.INFO_NEXT_ID);
            int[] due = Check.items(x);
            due[PppNegotiator.INFO_STATE] = after[state];
            if (state == 9) {
                due[PppNegotiator.INFO_DOWNS]++;
                due[PppNegotiator.INFO_NEXT_ID]++;
                due[PppNegotiator.INFO_RESTART] = 1;
                due[PppNegotiator.INFO_TIMER] = 3;
            } else {
                due[PppNegotiator.INFO_FINISHES]++;
                due[PppNegotiator.INFO_TIMER] = 0;
            }
            x.inject(1, PppNegotiator.CODE_CODE_REJ, rejected);
            String what = "reject of code " + rejected + " in state " + state;
            Check.due(what, x.deliver(1), 7);
            Check.same(what + ": the items due", Check.items(x), due);
            Check.due(what + ": messages", x.wireSize(0), state == 9 ? 1 : 0);
            if (state == 9) {
                Check.message(what, x, 0, 0, 5, nextId + 1, 0, -1, -1, -1, -1);
            }
        }
    }

    /** RXJ+ only turns 7 into 6, with the timer running on. */
    private static void harmlessReject(int rejected) {
        Check.sentence("RECEPTION of message m by peer p", "7: RXJ- if 1 <= m.data <= 7, else RXJ+.");
        for (int state = 2; state <= 9; state++) {
            PppNegotiator x = Scene.in(state);
            x.tick();
            int[] due = Check.items(x);
            due[PppNegotiator.INFO_STATE] = state == 7 ? 6 : state;
            x.inject(1, PppNegotiator.CODE_CODE_REJ, rejected);
            String what = "reject of code " + rejected + " in state " + state;
            Check.due(what, x.deliver(1), 7);
            Check.same(what + ": the items due", Check.items(x), due);
            Check.due(what + ": messages", x.wireSize(0), 0);
        }
    }

    /** A Code-Reject made by a peer, of a code that was fed in, comes back to the other peer. */
    private static void rejectMadeByAPeer() {
        Check.sentence("Actions of peer p",
            "scj: nextId++; append Code-Reject (id nextId, data = the received code).");
        PppNegotiator x = Scene.bothOpened();
        x.inject(0, 8, 3);
        x.deliver(0);
        Check.message("its data is the code, not the data", x, 1, 0, 7, 2, 8, -1, -1, -1, -1);
        Check.due("harmless", x.deliver(1), 7);
        Check.peer("harmless", x, 0, PppNegotiator.INFO_STATE, 9);
    }

    private static void discardCode() {
        Check.sentence("Transitions", "RXR: 9 only: for an Echo-Request, ser; for an Echo-Reply"
            + " whose id == echoId, missed = 0.");
        for (int state = 2; state <= 9; state++) {
            PppNegotiator x = Scene.in(state);
            if (state == 9) {
                x.echo(0);
                x.drop(0);
            }
            int[] before = Check.everything(x);
            x.inject(1, PppNegotiator.CODE_DISCARD, 1);
            Check.due("discard", x.deliver(1), 11);
            Check.unchanged("discard in state " + state, x, before);
        }
    }

    /** An Echo-Request, and the Echo-Reply to the last one sent, in a state other than 9. */
    private static void keepaliveNotOpened() {
        Check.sentence("Transitions", "RXR: 9 only: for an Echo-Request, ser; for an Echo-Reply"
            + " whose id == echoId, missed = 0.");
        for (int code = 9; code <= 10; code++) {
            for (int state = 2; state <= 8; state++) {
                PppNegotiator x = Scene.carrying(code);
                Scene.bring(x, state);
                Scene.empty(x, 0);
                Scene.find(x, 1, code);
                int[] items = Check.items(x);
                String what = "code " + code + " in state " + state;
                Check.peer(what, x, 0, PppNegotiator.INFO_STATE, state,
                    PppNegotiator.INFO_MISSED, code == 10 ? 1 : 0);
                Check.due(what, x.deliver(1), code);
                Check.same(what + ": the same items", Check.items(x), items);
                Check.due(what + ": no reply", x.wireSize(0), 0);
            }
        }
    }

    private static void keepaliveOpened() {
        Check.sentence("Transitions", "RXR: 9 only: for an Echo-Request, ser; for an Echo-Reply"
            + " whose id == echoId, missed = 0.");
        PppNegotiator x = Scene.bothOpened();
        x.echo(1);
        int[] items = Check.items(x);
        Check.due("an Echo-Request", x.deliver(1), 9);
        Check.same("an Echo-Request: the same items", Check.items(x), items);
        Check.due("an Echo-Request: messages", x.wireSize(0), 1);
        Check.message("an Echo-Request", x, 0, 0, 10, 2, 0, -1, -1, -1, -1);
        items[items.length / 2 + PppNegotiator.INFO_MISSED] = 0;
        Check.due("the Echo-Reply", x.deliver(0), 10);
        Check.same("the Echo-Reply: only missed changes", Check.items(x), items);
        Check.due("the Echo-Reply: messages", x.wireSize(1), 0);
    }

    /** A reply to an older request than the last one does not count. */
    private static void olderReply() {
        Check.sentence("Transitions", "RXR: 9 only: for an Echo-Request, ser; for an Echo-Reply"
            + " whose id == echoId, missed = 0.");
        PppNegotiator x = Scene.bothOpened();
        x.echo(0);
        x.echo(0);
        Scene.deliverAll(x, 0);
        x.duplicate(1);
        x.deliver(1);
        Check.peer("the older reply", x, 0, PppNegotiator.INFO_MISSED, 2);
        x.deliver(1);
        Check.peer("the reply to the last", x, 0, PppNegotiator.INFO_MISSED, 0);
        x.echo(0);
        x.deliver(1);
        Check.peer("the older reply again", x, 0, PppNegotiator.INFO_MISSED, 1);
    }

    /** An Echo-Request and an Echo-Reply for peer 0, peer 0 opened and one reply missed. */
    private static PppNegotiator withKeepalives() {
        PppNegotiator x = Scene.bothOpened();
        x.echo(1);
        x.echo(0);
        x.deliver(0);
        Check.message("before", x, 1, 0, 9, 2, 0, -1, -1, -1, -1);
        Check.message("before", x, 1, 1, 10, 2, 0, -1, -1, -1, -1);
        return x;
    }

    /** The state of the receiver counts, whatever has become of the sender. */
    private static void keepaliveOfOneOpened() {
        Check.sentence("Transitions", "RXR: 9 only: for an Echo-Request, ser; for an Echo-Reply"
            + " whose id == echoId, missed = 0.");
        PppNegotiator x = withKeepalives();
        x.down(1);
        x.deliver(1);
        Check.due("only the receiver opened: replies", x.wireSize(0), 1);
        Check.message("only the receiver opened", x, 0, 0, 10, 2, 0, -1, -1, -1, -1);
        x.deliver(1);
        Check.peer("only the receiver opened", x, 0, PppNegotiator.INFO_MISSED, 0);

        x = withKeepalives();
        x.down(0);
        x.up(0);
        Scene.empty(x, 0);
        int[] items = Check.items(x);
        Check.peer("before", x, 0, PppNegotiator.INFO_STATE, 6, PppNegotiator.INFO_MISSED, 1);
        Check.peer("before", x, 1, PppNegotiator.INFO_STATE, 9);
        x.deliver(1);
        x.deliver(1);
        Check.same("only the sender opened: the same items", Check.items(x), items);
        Check.due("only the sender opened: replies", x.wireSize(0), 0);
    }

    /** Ids taken since for other messages do not make the last Echo-Request an older one. */
    private static void replyAfterOtherIds() {
        Check.sentence("Transitions", "RXR: 9 only: for an Echo-Request, ser; for an Echo-Reply"
            + " whose id == echoId, missed = 0.");
        PppNegotiator x = Scene.bothOpened();
        x.echo(0);
        x.inject(1, 8, 0);
        x.deliver(0);
        x.deliver(1);
        Check.peer("a Code-Reject sent", x, 0, PppNegotiator.INFO_NEXT_ID, 3,
            PppNegotiator.INFO_ECHO_ID, 2, PppNegotiator.INFO_MISSED, 1);
        Check.due("the reply", x.deliver(1), 10);
        Check.peer("the reply", x, 0, PppNegotiator.INFO_MISSED, 0);
    }

    private static void fullWires() {
        for (int state = 2; state <= 9; state++) {
            int in = state;
            FullWire.loses("scj in state " + state, 1, () -> {
                PppNegotiator x = Scene.in(in);
                x.inject(1, 8, 0);
                return x;
            }, x -> x.deliver(1));
        }
        FullWire.loses("ser", 1, () -> {
            PppNegotiator x = Scene.bothOpened();
            x.echo(1);
            return x;
        }, x -> x.deliver(1));
        FullWire.loses("str for a Code-Reject", 1, () -> {
            PppNegotiator x = Scene.bothOpened();
            x.inject(1, PppNegotiator.CODE_CODE_REJ, 1);
            return x;
        }, x -> x.deliver(1));
    }

    public static void main(String[] args) {
        for (int code : new int[] {Integer.MIN_VALUE, -1, 0, 8, 12, 13, 256, 257, 65537,
            Integer.MAX_VALUE}) {
            unknownCode(code);
        }
        for (int rejected = 1; rejected <= 7; rejected++) {
            graveReject(rejected);
        }
        for (int rejected : new int[] {Integer.MIN_VALUE, -1, 0, 8, 9, 257, 65537, Integer.MAX_VALUE}) {
            harmlessReject(rejected);
        }
        rejectMadeByAPeer();
        discardCode();
        keepaliveNotOpened();
        keepaliveOpened();
        keepaliveOfOneOpened();
        olderReply();
        replyAfterOtherIds();
        fullWires();
        Check.end();
    }
}
