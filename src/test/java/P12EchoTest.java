/** Promise 12: keepalive, and what follows when the replies stay out. */
public final class P12EchoTest {
    private static final String REFUSED =
        "Answers false and changes nothing if peer is not 0 or 1 or its state is not 9.";
    private static final String LIMIT = "If missed >= ECHO_LIMIT: event Down then event Up happen on"
        + " the peer, then missed = 0; the answer is true.";
    private static final String ASKED = "Otherwise: nextId++; echoId = nextId; an Echo-Request (id"
        + " echoId, data 0, no options) is appended to wire peer; missed++; the answer is true.";

    private static void noSuchPeer() {
        Check.sentence("Promise 12", REFUSED);
        for (int peer : Check.outside(0, 1)) {
            PppNegotiator x = Scene.busy();
            int[] before = Check.everything(x);
            Check.refused("echo(" + peer + ")", x, x.echo(peer), before);
        }
    }

    private static void notOpened() {
        Check.sentence("Promise 12", REFUSED);
        for (int state = 0; state <= 8; state++) {
            PppNegotiator x = Scene.in(state);
            int[] before = Check.everything(x);
            Check.refused("echo in state " + state, x, x.echo(0), before);
        }
    }

    /** With missed at the limit the state still decides: in state 1 nothing happens. */
    private static void notOpenedPastTheLimit() {
        Check.sentence("Promise 12", REFUSED);
        PppNegotiator x = missed(3);
        x.down(0);
        int[] before = Check.everything(x);
        Check.refused("echo in state 1", x, x.echo(0), before);
        Check.peer("missed stays", x, 0, PppNegotiator.INFO_MISSED, 3);
    }

    /** Both peers opened, wires empty, and peer 0 has missed that many replies. */
    private static PppNegotiator missed(int count) {
        PppNegotiator x = Scene.bothOpened();
        for (int i = 0; i < count; i++) {
            x.echo(0);
        }
        Scene.empty(x, 0);
        Check.peer("missed so far", x, 0, PppNegotiator.INFO_MISSED, count,
            PppNegotiator.INFO_STATE, 9);
        return x;
    }

    private static void asked(int peer) {
        Check.sentence("Promise 12", ASKED);
        PppNegotiator x = Scene.bothOpened();
        int[] due = Check.items(x);
        int at = peer * due.length / 2;
        due[at + PppNegotiator.INFO_NEXT_ID] = 2;
        due[at + PppNegotiator.INFO_ECHO_ID] = 2;
        due[at + PppNegotiator.INFO_MISSED] = 1;
        Check.due("echo", x.echo(peer), true);
        Check.same("the items due", Check.items(x), due);
        Check.due("asked", x.wireSize(peer), 1);
        Check.message("asked", x, peer, 0, 9, 2, 0, -1, -1, -1, -1);
        Check.due("the other wire", x.wireSize(1 - peer), 0);
    }

    private static void answered(int peer) {
        Check.sentence("Promise 12", ASKED);
        PppNegotiator x = Scene.bothOpened();
        x.echo(peer);
        Check.due("deliver", x.deliver(peer), 9);
        Check.message("replied", x, 1 - peer, 0, 10, 2, 0, -1, -1, -1, -1);
        Check.peer("the other one", x, 1 - peer, PppNegotiator.INFO_NEXT_ID, 1,
            PppNegotiator.INFO_MISSED, 0, PppNegotiator.INFO_ECHO_ID, 0);
        Check.due("deliver", x.deliver(1 - peer), 10);
        Check.peer("answered", x, peer, PppNegotiator.INFO_MISSED, 0, PppNegotiator.INFO_ECHO_ID, 2);
        Check.due("echo again", x.echo(peer), true);
        Check.peer("asked again", x, peer, PppNegotiator.INFO_MISSED, 1, PppNegotiator.INFO_ECHO_ID, 3);
    }

    /** One less than the limit is still asked, and asking makes it the limit. */
    private static void belowTheLimit() {
        Check.sentence("Promise 12", ASKED);
        for (int count = 0; count <= 2; count++) {
            PppNegotiator x = missed(count);
            Check.due("echo with " + count + " missed", x.echo(0), true);
            Check.peer("one more", x, 0, PppNegotiator.INFO_MISSED, count + 1,
                PppNegotiator.INFO_STATE, 9, PppNegotiator.INFO_NEXT_ID, 2 + count,
                PppNegotiator.INFO_ECHO_ID, 2 + count, PppNegotiator.INFO_DOWNS, 0);
            Check.message("one more", x, 0, 0, 9, 2 + count, 0, -1, -1, -1, -1);
        }
    }

    private static void atTheLimit() {
        Check.sentence("Promise 12", LIMIT);
        PppNegotiator x = missed(3);
        int[] due = Check.items(x);
        due[PppNegotiator.INFO_STATE] = 6;
        due[PppNegotiator.INFO_RESTART] = 9;
        due[PppNegotiator.INFO_TIMER] = 3;
        due[PppNegotiator.INFO_NEXT_ID] = 5;
        due[PppNegotiator.INFO_CR_ID] = 5;
        due[PppNegotiator.INFO_MISSED] = 0;
        due[PppNegotiator.INFO_DOWNS] = 1;
        Check.due("echo at the limit", x.echo(0), true);
        Check.same("at the limit: the items due", Check.items(x), due);
        Check.due("at the limit", x.wireSize(0), 1);
        Check.message("at the limit", x, 0, 0, 1, 5, 0, 1500, -1, -1, 15);
    }

    /** Up begins a new negotiation: what the old one had adopted or rejected is asked for again. */
    private static void atTheLimitAllIsAsked() {
        Check.sentence("Promise 12", LIMIT);
        PppNegotiator x = Scene.withoutMagic();
        x.setRange(1, PppNegotiator.OPT_COMP, 1, 0);
        x.setRange(1, PppNegotiator.OPT_MRU, 64, 1000);
        for (int p = 0; p < 2; p++) {
            x.up(p);
            x.open(p);
        }
        x.deliver(1);
        for (int answer : new int[] {4, 3, 2}) {
            Scene.deliverCode(x, 0, PppNegotiator.CODE_CONF_REQ);
            Scene.deliverCode(x, 1, answer);
        }
        Check.peer("opened", x, 0, PppNegotiator.INFO_STATE, 9);
        Check.options("agreed", x, 0, PppNegotiator.OI_LOCAL, 1000, -1, -1, -1);
        for (int i = 0; i < 4; i++) {
            x.echo(0);
        }
        Check.options("all again", x, 0, PppNegotiator.OI_SENT, 1500, -1, -1, 15);
        Check.options("all again", x, 0, PppNegotiator.OI_INCLUDED, 1, 0, 0, 1);
    }

    /** A reply of the last request that comes before the fourth call saves the link. */
    private static void savedAtTheLimit() {
        Check.sentence("Promise 12", LIMIT);
        PppNegotiator x = Scene.bothOpened();
        for (int i = 0; i < 3; i++) {
            x.echo(0);
        }
        Scene.deliverAll(x, 0);
        x.deliver(1);
        x.deliver(1);
        Check.peer("older replies", x, 0, PppNegotiator.INFO_MISSED, 3);
        x.deliver(1);
        Check.peer("the reply to the last", x, 0, PppNegotiator.INFO_MISSED, 0);
        x.echo(0);
        Check.peer("still opened", x, 0, PppNegotiator.INFO_STATE, 9, PppNegotiator.INFO_MISSED, 1);
    }

    /** An opened peer begins with none missed, even if some were missed before. */
    private static void openedAnew() {
        Check.sentence("Actions of peer p", "tlu: ups++; missed = 0.");
        PppNegotiator x = missed(1);
        x.down(0);
        x.down(1);
        Check.peer("down keeps", x, 0, PppNegotiator.INFO_MISSED, 1);
        x.up(0);
        x.up(1);
        x.deliver(0);
        x.deliver(1);
        Check.peer("not yet opened", x, 0, PppNegotiator.INFO_STATE, 8, PppNegotiator.INFO_MISSED, 1);
        x.deliver(1);
        Check.peer("opened anew", x, 0, PppNegotiator.INFO_STATE, 9, PppNegotiator.INFO_MISSED, 0,
            PppNegotiator.INFO_UPS, 2);
    }

    /** Three on a full wire count as missed, and the fourth takes the link down. */
    private static void fullWire() {
        Check.sentence("Promise 12", "The increments happen even when the wire is full.");
        PppNegotiator x = Scene.bothOpened();
        Scene.fill(x, 0);
        int[] wire = Check.wire(x, 0);
        for (int i = 1; i <= 3; i++) {
            Check.due("echo on a full wire", x.echo(0), true);
            Check.peer("echo on a full wire", x, 0, PppNegotiator.INFO_NEXT_ID, 1 + i,
                PppNegotiator.INFO_ECHO_ID, 1 + i, PppNegotiator.INFO_MISSED, i);
        }
        Check.due("at the limit on a full wire", x.echo(0), true);
        Check.peer("at the limit on a full wire", x, 0, PppNegotiator.INFO_NEXT_ID, 5,
            PppNegotiator.INFO_CR_ID, 5, PppNegotiator.INFO_STATE, 6, PppNegotiator.INFO_MISSED, 0);
        Check.same("the wire is as it was", Check.wire(x, 0), wire);
    }

    public static void main(String[] args) {
        noSuchPeer();
        notOpened();
        notOpenedPastTheLimit();
        for (int peer = 0; peer < 2; peer++) {
            asked(peer);
            answered(peer);
        }
        belowTheLimit();
        atTheLimit();
        atTheLimitAllIsAsked();
        savedAtTheLimit();
        openedAnew();
        fullWire();
        FullWire.loses("echo", 1, Scene::bothOpened, x -> x.echo(0));
        FullWire.loses("echo at the limit", 1, () -> missed(3), x -> x.echo(0));
        Check.end();
    }
}
