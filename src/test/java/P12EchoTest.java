/** Promise 12: keepalive, its replies and what follows when they stay out. */
public final class P12EchoTest {
    private static void refusals() {
        for (int peer : new int[] {Integer.MIN_VALUE, -1, 2, Integer.MAX_VALUE}) {
            PppNegotiator x = Scene.bothOpened();
            int[] before = Check.everything(x);
            Check.refused("echo(" + peer + ")", x, x.echo(peer), before);
        }
        for (int state = 0; state <= 8; state++) {
            PppNegotiator x = Scene.in(state);
            int[] before = Check.everything(x);
            Check.refused("echo in state " + state, x, x.echo(0), before);
        }
    }

    private static void answered(int peer) {
        PppNegotiator x = Scene.bothOpened();
        Check.due("echo", x.echo(peer), true);
        Check.peer("asked", x, peer, PppNegotiator.INFO_NEXT_ID, 2, PppNegotiator.INFO_ECHO_ID, 2,
            PppNegotiator.INFO_MISSED, 1, PppNegotiator.INFO_STATE, 9, PppNegotiator.INFO_TIMER, 0);
        Check.due("asked", x.wireSize(peer), 1);
        Check.message("asked", x, peer, 0, 9, 2, 0, -1, -1, -1, -1);
        Check.due("deliver", x.deliver(peer), 9);
        Check.message("replied", x, 1 - peer, 0, 10, 2, 0, -1, -1, -1, -1);
        Check.peer("the other one", x, 1 - peer, PppNegotiator.INFO_NEXT_ID, 1,
            PppNegotiator.INFO_MISSED, 0, PppNegotiator.INFO_ECHO_ID, 0);
        Check.due("deliver", x.deliver(1 - peer), 10);
        Check.peer("answered", x, peer, PppNegotiator.INFO_MISSED, 0, PppNegotiator.INFO_ECHO_ID, 2);
    }

    /** Only the reply to the last request counts. */
    private static void lateReply() {
        PppNegotiator x = Scene.bothOpened();
        x.echo(0);
        x.echo(0);
        Scene.deliverAll(x, 0);
        x.deliver(1);
        Check.peer("the older reply", x, 0, PppNegotiator.INFO_MISSED, 2);
        x.deliver(1);
        Check.peer("the reply to the last", x, 0, PppNegotiator.INFO_MISSED, 0);
    }

    /** A request or a reply that comes to a peer that is not opened does nothing. */
    private static void notOpened() {
        PppNegotiator x = Scene.bothOpened();
        x.echo(0);
        x.close(1);
        Scene.empty(x, 1);
        x.deliver(0);
        Check.due("no reply in state 4", x.wireSize(1), 0);

        x = Scene.bothOpened();
        x.echo(0);
        x.deliver(0);
        x.close(0);
        x.deliver(1);
        Check.peer("a reply in state 4", x, 0, PppNegotiator.INFO_STATE, 4, PppNegotiator.INFO_MISSED, 1);
    }

    private static void limit() {
        PppNegotiator x = Scene.bothOpened();
        for (int missed = 1; missed <= 3; missed++) {
            Check.due("echo", x.echo(0), true);
            Check.peer("missed", x, 0, PppNegotiator.INFO_MISSED, missed,
                PppNegotiator.INFO_STATE, 9, PppNegotiator.INFO_NEXT_ID, 1 + missed);
        }
        Scene.empty(x, 0);
        Check.due("echo past the limit", x.echo(0), true);
        Check.peer("past the limit", x, 0, PppNegotiator.INFO_STATE, 6, PppNegotiator.INFO_MISSED, 0,
            PppNegotiator.INFO_DOWNS, 1, PppNegotiator.INFO_STARTS, 0, PppNegotiator.INFO_FINISHES, 0,
            PppNegotiator.INFO_NEXT_ID, 5, PppNegotiator.INFO_CR_ID, 5, PppNegotiator.INFO_ECHO_ID, 4,
            PppNegotiator.INFO_RESTART, 9, PppNegotiator.INFO_TIMER, 3);
        Check.due("past the limit", x.wireSize(0), 1);
        Check.message("past the limit", x, 0, 0, 1, 5, 0, 1500, -1, -1, 15);
    }

    /** An opened peer begins with none missed, even if some were missed before. */
    private static void openedAnew() {
        PppNegotiator x = Scene.bothOpened();
        x.echo(0);
        x.down(0);
        x.down(1);
        Check.peer("down keeps", x, 0, PppNegotiator.INFO_MISSED, 1);
        Scene.empty(x, 0);
        x.up(0);
        x.up(1);
        x.deliver(0);
        x.deliver(1);
        Check.peer("not yet opened", x, 0, PppNegotiator.INFO_STATE, 8, PppNegotiator.INFO_MISSED, 1);
        x.deliver(1);
        Check.peer("opened anew", x, 0, PppNegotiator.INFO_STATE, 9, PppNegotiator.INFO_MISSED, 0,
            PppNegotiator.INFO_UPS, 2);
    }

    private static void fullWire() {
        PppNegotiator x = Scene.bothOpened();
        Scene.fill(x, 0);
        Check.due("echo on a full wire", x.echo(0), true);
        Check.peer("echo on a full wire", x, 0, PppNegotiator.INFO_NEXT_ID, 2,
            PppNegotiator.INFO_ECHO_ID, 2, PppNegotiator.INFO_MISSED, 1);
        Check.due("echo on a full wire", x.wireSize(0), 8);
        Check.message("echo on a full wire", x, 0, 7, 11, 0, 0, -1, -1, -1, -1);
    }

    public static void main(String[] args) {
        refusals();
        answered(0);
        answered(1);
        lateReply();
        notOpened();
        limit();
        openedAnew();
        fullWire();
        Check.end();
    }
}
