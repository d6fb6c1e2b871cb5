/** Promise 14: each selector answers its own item of its own peer. */
public final class P14PeerInfoTest {
    private static final String REFUSED =
        "Answers -1 if peer is not 0 or 1 or what is not 0..12.";

    private static void noSuchPeer() {
        Check.sentence("Promise 14", REFUSED);
        PppNegotiator x = Scene.busy();
        for (int peer : Check.outside(0, 1)) {
            for (int what = -1; what <= 13; what++) {
                Check.due("peerInfo(" + peer + ", " + what + ")", x.peerInfo(peer, what), -1);
            }
        }
    }

    private static void noSuchItem() {
        Check.sentence("Promise 14", REFUSED);
        PppNegotiator x = Scene.busy();
        for (int what : Check.outside(0, 12)) {
            for (int peer = 0; peer < 2; peer++) {
                Check.due("peerInfo(" + peer + ", " + what + ")", x.peerInfo(peer, what), -1);
            }
        }
    }

    /** No item is ever -1, so that the answer -1 always tells of a wrong input. */
    private static void firstAndLastItem() {
        Check.sentence("Promise 14", REFUSED);
        PppNegotiator x = Scene.fresh();
        for (int peer = 0; peer < 2; peer++) {
            x.open(peer);
            x.close(peer);
            x.up(peer);
            Check.peer("the first and the last", x, peer, 0, 2, 12, 1);
        }
    }

    private static void nothingChanges() {
        Check.sentence("Promise 14", "Nothing changes.");
        PppNegotiator x = Scene.busy();
        int[] before = Check.everything(x);
        for (int peer = -1; peer <= 2; peer++) {
            for (int what = -1; what <= 13; what++) {
                x.peerInfo(peer, what);
            }
        }
        Check.unchanged("peerInfo", x, before);
    }

    /** A run after which the items differ from each other as far as they can. */
    private static void allItems() {
        Check.sentence("Promise 14", "Answers the peer's item selected by what");
        PppNegotiator x = new PppNegotiator(7, 4, 5, 4);
        x.setRange(0, PppNegotiator.OPT_MRU, 64, 1000);
        x.open(0);
        x.close(0);
        x.open(0);
        x.close(0);
        x.open(0);
        Check.peer("starts and finishes", x, 0, 11, 3, 12, 2);
        Check.peer("starts and finishes", x, 1, 11, 0, 12, 0);
        x.up(0);
        x.up(1);
        x.open(1);
        x.tick();
        Check.peer("first request", x, 0, 0, 6, 1, 6, 2, 3, 3, 1, 4, 1, 5, 0, 6, 0);
        x.deliver(1);
        Check.peer("a request nakked", x, 0, 5, 1, 6, 1);
        Scene.deliverCode(x, 0, 3);
        Check.peer("a Nak received", x, 1, 0, 6, 1, 6, 2, 4, 3, 2, 4, 2, 5, 0, 6, 0);
        Scene.deliverCode(x, 0, 1);
        Check.peer("a request acked", x, 1, 0, 8, 5, 1, 6, 0);
        Scene.deliverCode(x, 1, 1);
        Check.peer("a request acked", x, 0, 0, 8, 5, 2, 6, 0, 9, 0);
        Scene.deliverCode(x, 1, 2);
        Scene.deliverCode(x, 0, 2);
        Check.peer("opened", x, 0, 0, 9, 1, 7, 2, 0, 7, 0, 8, 0, 9, 1, 10, 0);
        Check.peer("opened", x, 1, 0, 9, 1, 7, 2, 0, 7, 0, 8, 0, 9, 1, 10, 0);
        x.echo(0);
        x.echo(0);
        Check.peer("two echoes", x, 0, 3, 3, 4, 1, 7, 2, 8, 3);
        x.close(0);
        Check.peer("closed", x, 0, 0, 4, 1, 3, 2, 4, 3, 4, 4, 1, 5, 2, 7, 2, 8, 3, 9, 1, 10, 1, 11, 3, 12, 2);
    }

    public static void main(String[] args) {
        noSuchPeer();
        noSuchItem();
        firstAndLastItem();
        nothingChanges();
        allItems();
        Check.end();
    }
}
