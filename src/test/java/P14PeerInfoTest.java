/** Promise 14: each selector answers its own item of its own peer. */
public final class P14PeerInfoTest {
    private static void wrongInputs() {
        PppNegotiator x = Scene.in(9);
        int[] before = Check.everything(x);
        for (int peer : new int[] {Integer.MIN_VALUE, -1, 2, Integer.MAX_VALUE}) {
            for (int what = 0; what <= 12; what++) {
                Check.due("peerInfo(" + peer + ", " + what + ")", x.peerInfo(peer, what), -1);
            }
        }
        for (int what : new int[] {Integer.MIN_VALUE, -1, 13, Integer.MAX_VALUE}) {
            Check.due("peerInfo(0, " + what + ")", x.peerInfo(0, what), -1);
            Check.due("peerInfo(1, " + what + ")", x.peerInfo(1, what), -1);
        }
        Check.unchanged("peerInfo", x, before);
    }

    /** A run after which the items differ from each other as far as they can. */
    private static void allItems() {
        PppNegotiator x = new PppNegotiator(7, 4, 5, 4);
        x.setRange(0, PppNegotiator.OPT_MRU, 64, 1000);
        x.open(0);
        x.close(0);
        x.open(0);
        x.close(0);
        x.open(0);
        Check.peer("starts and finishes", x, 0, 11, 3, 12, 2);
        Check.peer("starts and finishes", x, 1, 11, 0, 12, 0);
        x.up(0);
        x.up(1);
        x.open(1);
        x.tick();
        Check.peer("first request", x, 0, 0, 6, 1, 6, 2, 3, 3, 1, 4, 1, 5, 0, 6, 0);
        x.deliver(1);
        Check.peer("a request nakked", x, 0, 5, 1, 6, 1);
        Scene.deliverCode(x, 0, 3);
        Check.peer("a Nak received", x, 1, 0, 6, 1, 6, 2, 4, 3, 2, 4, 2, 5, 0, 6, 0);
        Scene.deliverCode(x, 0, 1);
        Check.peer("a request acked", x, 1, 0, 8, 5, 1, 6, 0);
        Scene.deliverCode(x, 1, 1);
        Check.peer("a request acked", x, 0, 0, 8, 5, 2, 6, 0, 9, 0);
        Scene.deliverCode(x, 1, 2);
        Scene.deliverCode(x, 0, 2);
        Check.peer("opened", x, 0, 0, 9, 1, 7, 2, 0, 7, 0, 8, 0, 9, 1, 10, 0);
        Check.peer("opened", x, 1, 0, 9, 1, 7, 2, 0, 7, 0, 8, 0, 9, 1, 10, 0);
        x.echo(0);
        x.echo(0);
        Check.peer("two echoes", x, 0, 3, 3, 4, 1, 7, 2, 8, 3);
        x.close(0);
        Check.peer("closed", x, 0, 0, 4, 1, 3, 2, 4, 3, 4, 4, 1, 5, 2, 7, 2, 8, 3, 9, 1, 10, 1, 11, 3, 12, 2);
    }

    public static void main(String[] args) {
        wrongInputs();
        allItems();
        Check.end();
    }
}
