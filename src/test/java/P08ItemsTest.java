/** Promise 8 and all events: the shared terms 'Peer items', and the actions that set them. */
public final class P08ItemsTest {
    private static final String WHERE = "Peer items";

    private static void sent() {
        Check.sentence(WHERE,
            "sent (the value in its last Configure-Request, NONE if absent or no request yet)");
        PppNegotiator x = Scene.fresh();
        x.up(0);
        Check.options("no request yet", x, 0, PppNegotiator.OI_SENT, -1, -1, -1, -1);
        x.open(0);
        Check.options("absent or not", x, 0, PppNegotiator.OI_SENT, 1500, -1, 65535, 15);
        x.close(0);
        x.down(0);
        Check.options("the last one stays", x, 0, PppNegotiator.OI_SENT, 1500, -1, 65535, 15);
        x.setRange(0, PppNegotiator.OPT_MRU, 1, 0);
        x.setRange(0, PppNegotiator.OPT_AUTH, 0, 0);
        Check.options("until the next", x, 0, PppNegotiator.OI_SENT, 1500, -1, 65535, 15);
        x.up(0);
        x.open(0);
        Check.options("the next one", x, 0, PppNegotiator.OI_SENT, -1, 0, 65535, 15);
    }

    /** Peer 1 asks for MRU and COMP, then for COMP alone, then for what is not good. */
    private static void remote() {
        Check.sentence(WHERE,
            "remote (the value it last acknowledged in the other's request, NONE if absent)");
        PppNegotiator x = Scene.in(6);
        Scene.requestOfPeer1(x, 1500);
        Check.options("nothing acknowledged", x, 0, PppNegotiator.OI_REMOTE, -1, -1, -1, -1);
        x.deliver(1);
        Check.options("first", x, 0, PppNegotiator.OI_REMOTE, 1500, -1, -1, 15);
        x.down(1);
        x.setRange(1, PppNegotiator.OPT_MRU, 1, 0);
        x.setRange(1, PppNegotiator.OPT_COMP, 0, 3);
        x.up(1);
        x.deliver(1);
        Check.options("without MRU", x, 0, PppNegotiator.OI_REMOTE, -1, -1, -1, 3);
        Scene.requestOfPeer1(x, 2000);
        x.deliver(1);
        Check.peer("a Nak", x, 0, PppNegotiator.INFO_NAKS, 1);
        Check.options("a Nak leaves it", x, 0, PppNegotiator.OI_REMOTE, -1, -1, -1, 3);
        x.down(0);
        x.up(0);
        Check.options("a new start leaves it", x, 0, PppNegotiator.OI_REMOTE, -1, -1, -1, 3);
    }

    private static void local() {
        Check.sentence(WHERE,
            "local (set to its sent value when a valid Ack arrives in state 6 or 8)");
        PppNegotiator x = Scene.bothOpened();
        Check.options("agreed", x, 0, PppNegotiator.OI_LOCAL, 1500, -1, -1, 15);
        x.down(0);
        x.setRange(0, PppNegotiator.OPT_MRU, 1, 0);
        x.setRange(0, PppNegotiator.OPT_COMP, 2, 4);
        x.up(0);
        Check.options("a new request leaves it", x, 0, PppNegotiator.OI_LOCAL, 1500, -1, -1, 15);
        x.deliver(0);
        Scene.deliverCode(x, 1, PppNegotiator.CODE_CONF_ACK);
        Check.options("a new Ack sets it", x, 0, PppNegotiator.OI_LOCAL, -1, -1, -1, 4);
    }

    private static void noneYet() {
        Check.sentence(WHERE, "(id of its last Configure-Request, 0 = none)");
        PppNegotiator x = Scene.fresh();
        x.up(0);
        x.inject(1, 8, 0);
        x.deliver(1);
        Check.peer("an id taken, no request", x, 0, PppNegotiator.INFO_NEXT_ID, 1,
            PppNegotiator.INFO_CR_ID, 0, PppNegotiator.INFO_HIGH_CR, 0, PppNegotiator.INFO_ECHO_ID, 0);
        x.open(0);
        Check.peer("a request", x, 0, PppNegotiator.INFO_NEXT_ID, 2, PppNegotiator.INFO_CR_ID, 2);
    }

    /** A repeated or a later request raises it or leaves it, and nothing lowers it. */
    private static void highCr() {
        Check.sentence(WHERE, "highCr (greatest Configure-Request id it accepted, 0 = none)");
        PppNegotiator x = Scene.in(6);
        Scene.requestOfPeer1(x, 2000);
        x.deliver(1);
        Check.peer("a bad request counts too", x, 0, PppNegotiator.INFO_HIGH_CR, 1);
        x.inject(1, 8, 0);
        x.deliver(1);
        Check.peer("another code does not", x, 0, PppNegotiator.INFO_HIGH_CR, 1);
        Scene.requestOfPeer1(x, 1500);
        x.deliver(1);
        Check.peer("the next request", x, 0, PppNegotiator.INFO_HIGH_CR, 2);
        x.close(0);
        x.down(0);
        x.up(0);
        x.open(0);
        Check.peer("a new start keeps it", x, 0, PppNegotiator.INFO_HIGH_CR, 2);
    }

    private static void naks() {
        Check.sentence(WHERE, "naks (Naks sent since its last Ack sent or negotiation start)");
        PppNegotiator x = Scene.in(6);
        for (int i = 1; i <= 3; i++) {
            Scene.requestOfPeer1(x, 2000);
            x.deliver(1);
            Check.peer("nak " + i, x, 0, PppNegotiator.INFO_NAKS, i);
        }
        Scene.requestOfPeer1(x, 1500);
        x.deliver(1);
        Check.peer("an Ack", x, 0, PppNegotiator.INFO_NAKS, 0, PppNegotiator.INFO_STATE, 8);
        Scene.requestOfPeer1(x, 2000);
        x.deliver(1);
        x.close(0);
        x.down(0);
        Check.peer("no Ack, no start", x, 0, PppNegotiator.INFO_NAKS, 1);
        x.open(0);
        Check.peer("no start yet", x, 0, PppNegotiator.INFO_NAKS, 1);
        x.up(0);
        Check.peer("a start", x, 0, PppNegotiator.INFO_NAKS, 0);
    }

    private static void counts() {
        Check.sentence(WHERE, "ups, downs, starts, finishes (counts of tlu, tld, tls, tlf)");
        PppNegotiator x = Scene.fresh();
        for (int i = 1; i <= 20; i++) {
            x.open(0);
            Check.peer("open", x, 0, PppNegotiator.INFO_STARTS, i, PppNegotiator.INFO_FINISHES, i - 1);
            x.close(0);
            Check.peer("close", x, 0, PppNegotiator.INFO_STARTS, i, PppNegotiator.INFO_FINISHES, i);
        }
        Check.peer("never up", x, 0, PppNegotiator.INFO_UPS, 0, PppNegotiator.INFO_DOWNS, 0);
    }

    private static void upsAndDowns() {
        Check.sentence(WHERE, "ups, downs, starts, finishes (counts of tlu, tld, tls, tlf)");
        PppNegotiator x = Scene.bothOpened();
        for (int i = 1; i <= 20; i++) {
            Check.peer("opened", x, 0, PppNegotiator.INFO_UPS, i, PppNegotiator.INFO_DOWNS, i - 1);
            x.down(0);
            x.down(1);
            Check.peer("down", x, 0, PppNegotiator.INFO_UPS, i, PppNegotiator.INFO_DOWNS, i);
            x.up(0);
            x.up(1);
            x.deliver(0);
            Scene.deliverAll(x, 1);
            Scene.deliverAll(x, 0);
        }
        Check.peer("no tls, no tlf", x, 0, PppNegotiator.INFO_STARTS, 0,
            PppNegotiator.INFO_FINISHES, 0);
    }

    /** Ten ids in eleven calls: a request a tick, and a new start when they run out. */
    private static void idsPast255() {
        Check.sentence(WHERE, "Ids never wrap in 512 calls.");
        PppNegotiator x = new PppNegotiator(10, 1, 1, 1);
        x.open(0);
        int ids = 0;
        for (int calls = 1; calls + 11 <= 512; calls += 11) {
            x.up(0);
            ids++;
            for (int i = 1; i < 10; i++) {
                x.tick();
                ids++;
                Check.peer("id", x, 0, PppNegotiator.INFO_NEXT_ID, ids, PppNegotiator.INFO_CR_ID, ids);
            }
            x.down(0);
        }
        Check.due("ids taken", ids, 460);
    }

    /** Request 255, 256 and 257 of peer 1: later ids stay greater than those before. */
    private static void highCrPast255() {
        Check.sentence(WHERE, "Ids never wrap in 512 calls.");
        PppNegotiator x = Scene.in(6);
        Scene.fill(x, 1);
        x.open(1);
        for (int i = 1; i < 255; i++) {
            x.up(1);
            x.down(1);
        }
        Scene.empty(x, 1);
        for (int i = 255; i <= 257; i++) {
            x.up(1);
            x.down(1);
        }
        for (int id = 255; id <= 257; id++) {
            Check.due("id on the wire", x.wireInfo(1, 0, PppNegotiator.W_ID), id);
            x.deliver(1);
            Check.peer("accepted", x, 0, PppNegotiator.INFO_HIGH_CR, id);
            Check.due("the id of the Ack", x.wireInfo(0, 0, PppNegotiator.W_ID), id);
            x.drop(0);
        }
    }

    public static void main(String[] args) {
        sent();
        remote();
        local();
        noneYet();
        highCr();
        naks();
        counts();
        upsAndDowns();
        idsPast255();
        highCrPast255();
        Check.end();
    }
}
