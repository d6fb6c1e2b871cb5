/** Promise 8 and all events: the shared terms 'Actions of peer p', where other tests say less. */
public final class P08ActionsTest {
    private static final String WHERE = "Actions of peer p";
    private static final String SCR = "scr: nextId++; crId = nextId; for each option sent = included"
        + " ? want : NONE; append Configure-Request (id crId, options = sent); if restart > 0 then"
        + " restart--; timer = restartTicks.";
    private static final String STR = "str: nextId++; append Terminate-Request (id nextId, no"
        + " options); if restart > 0 then restart--; timer = restartTicks.";

    /** The request stands before the answer on the wire, and takes its id first. */
    private static void orderOnTheWire() {
        Check.sentence(WHERE, "Actions in a transition are done in the order written.");
        for (int state : new int[] {3, 9}) {
            for (int mru : new int[] {1500, 2000}) {
                PppNegotiator x = Scene.in(state);
                Scene.requestOfPeer1(x, mru);
                x.deliver(1);
                String what = "a request for " + mru + " in state " + state;
                Check.due(what, x.wireInfo(0, 0, PppNegotiator.W_CODE), 1);
                Check.due(what, x.wireInfo(0, 1, PppNegotiator.W_CODE), mru == 1500 ? 2 : 3);
            }
        }
    }

    /** What a Nak or a Reject tells is in the request that follows it at once. */
    private static void adoptBeforeRequest() {
        Check.sentence(WHERE, "Actions in a transition are done in the order written.");
        for (int state = 6; state <= 9; state++) {
            for (int code = 3; code <= 4; code++) {
                PppNegotiator x = Scene.withAnswersIn(state);
                Scene.deliverCode(x, 1, code);
                Check.due("COMP in the request, answer " + code + " in state " + state,
                    x.wireInfo(0, 0, PppNegotiator.W_OPT + PppNegotiator.OPT_COMP),
                    code == 3 ? 9 : -1);
            }
        }
    }

    /** The counter is set before the request spends of it. */
    private static void counterBeforeRequest() {
        Check.sentence(WHERE, "ircC: restart = maxConfigure. ircT: restart = maxTerminate.");
        PppNegotiator x = Scene.in(6);
        Scene.ticks(x, 2 * Scene.RESTART_TICKS);
        Check.peer("spent", x, 0, PppNegotiator.INFO_RESTART, 7);
        x.close(0);
        Check.peer("ircT, str", x, 0, PppNegotiator.INFO_RESTART, Scene.MAX_TERMINATE - 1);
        x.down(0);
        x.open(0);
        x.up(0);
        Check.peer("ircC, scr", x, 0, PppNegotiator.INFO_RESTART, Scene.MAX_CONFIGURE - 1);
        x = Scene.withAnswersIn(6);
        Scene.deliverCode(x, 1, PppNegotiator.CODE_CONF_ACK);
        Check.peer("ircC", x, 0, PppNegotiator.INFO_RESTART, Scene.MAX_CONFIGURE);
    }

    /** Down to 0 and no further: the request that spends the last one is still sent. */
    private static void configureRequests() {
        Check.sentence(WHERE, SCR);
        PppNegotiator x = new PppNegotiator(4, 1, 1, 2);
        x.setRange(0, PppNegotiator.OPT_AUTH, 0, 0);
        x.setRange(0, PppNegotiator.OPT_COMP, 1, 0);
        x.up(0);
        x.open(0);
        for (int id = 1; id <= 4; id++) {
            Check.peer("request " + id, x, 0, PppNegotiator.INFO_NEXT_ID, id,
                PppNegotiator.INFO_CR_ID, id, PppNegotiator.INFO_RESTART, 4 - id,
                PppNegotiator.INFO_TIMER, 2, PppNegotiator.INFO_STATE, 6);
            Check.due("requests", x.wireSize(0), id);
            Check.message("request", x, 0, id - 1, 1, id, 0, 1500, 0, 65535, -1);
            Scene.ticks(x, 2);
        }
        Check.peer("no more", x, 0, PppNegotiator.INFO_NEXT_ID, 4, PppNegotiator.INFO_RESTART, 0,
            PppNegotiator.INFO_STATE, 3);
        Check.due("requests", x.wireSize(0), 4);
    }

    private static void terminateRequests() {
        Check.sentence(WHERE, STR);
        PppNegotiator x = new PppNegotiator(1, 4, 1, 2);
        x.up(0);
        x.open(0);
        x.drop(0);
        x.close(0);
        for (int i = 1; i <= 4; i++) {
            Check.peer("request " + i, x, 0, PppNegotiator.INFO_NEXT_ID, 1 + i,
                PppNegotiator.INFO_CR_ID, 1, PppNegotiator.INFO_RESTART, 4 - i,
                PppNegotiator.INFO_TIMER, 2, PppNegotiator.INFO_STATE, 4);
            Check.due("requests", x.wireSize(0), i);
            Check.message("request", x, 0, i - 1, 5, 1 + i, 0, -1, -1, -1, -1);
            Scene.ticks(x, 2);
        }
        Check.peer("no more", x, 0, PppNegotiator.INFO_NEXT_ID, 5, PppNegotiator.INFO_RESTART, 0,
            PppNegotiator.INFO_STATE, 2);
        Check.due("requests", x.wireSize(0), 4);
    }

    /** The id is the received one, far from the ids of the peer that answers. */
    private static void idsOfAnswers() {
        Check.sentence(WHERE, "sca: append Configure-Ack with id and option fields copied from the"
            + " received request; remote = those option fields; naks = 0.");
        PppNegotiator x = Scene.in(6);
        takeIdsOfPeer1(x);
        Scene.requestOfPeer1(x, 1500);
        x.deliver(1);
        Check.message("ack", x, 0, 0, 2, 9, 0, 1500, -1, -1, 15);
        Check.peer("an ack takes no id", x, 0, PppNegotiator.INFO_NEXT_ID, 1);

        x = Scene.in(6);
        takeIdsOfPeer1(x);
        Scene.requestOfPeer1(x, 2000);
        x.deliver(1);
        Check.message("nak", x, 0, 0, 3, 9, 0, 1500, -1, -1, -1);
        Check.peer("a nak takes no id", x, 0, PppNegotiator.INFO_NEXT_ID, 1);
    }

    private static void idsOfTerminateAcks() {
        Check.sentence(WHERE,
            "sta: append Terminate-Ack with the id of the received message, no options.");
        PppNegotiator x = Scene.in(2);
        takeIdsOfPeer1(x);
        Scene.requestOfPeer1(x, 1500);
        x.deliver(1);
        Check.message("for a Configure-Request", x, 0, 0, 6, 9, 0, -1, -1, -1, -1);
        x.close(1);
        x.deliver(1);
        Check.message("for a Terminate-Request", x, 0, 1, 6, 10, 0, -1, -1, -1, -1);
        Check.peer("no id taken", x, 0, PppNegotiator.INFO_NEXT_ID, 0);
    }

    private static void idsOfEchoReplies() {
        Check.sentence(WHERE, "ser: append Echo-Reply with the id of the received Echo-Request.");
        PppNegotiator x = Scene.bothOpened();
        x.echo(1);
        x.echo(1);
        Scene.deliverAll(x, 1);
        Check.message("reply", x, 0, 0, 10, 2, 0, -1, -1, -1, -1);
        Check.message("reply", x, 0, 1, 10, 3, 0, -1, -1, -1, -1);
        Check.peer("a reply takes no id", x, 0, PppNegotiator.INFO_NEXT_ID, 1,
            PppNegotiator.INFO_ECHO_ID, 0, PppNegotiator.INFO_MISSED, 0);
    }

    /** Eight ids for Code-Rejects, which are lost on the way. */
    private static void takeIdsOfPeer1(PppNegotiator x) {
        x.up(1);
        for (int i = 0; i < 8; i++) {
            x.inject(0, 8, 0);
            x.deliver(0);
        }
        x.down(1);
        Scene.empty(x, 1);
        Check.peer("ids taken", x, 1, PppNegotiator.INFO_NEXT_ID, 8, PppNegotiator.INFO_STATE, 0);
    }

    /** Options of one's own request, or of the request answered, do not get into a reply. */
    private static void noOptions() {
        Check.sentence("CLASSIFY", "Option fields not named in a reply are NONE.");
        PppNegotiator x = Scene.withoutMagic();
        for (int o = 0; o < 4; o++) {
            x.setRange(0, o, 100, 200);
            x.setRange(1, o, 100, 150);
        }
        x.setRange(1, PppNegotiator.OPT_COMP, 201, 201);
        for (int p = 0; p < 2; p++) {
            x.up(p);
            x.open(p);
        }
        x.deliver(1);
        Check.message("one named of four", x, 0, 1, 3, 1, 0, -1, -1, -1, 200);
    }

    public static void main(String[] args) {
        orderOnTheWire();
        adoptBeforeRequest();
        counterBeforeRequest();
        configureRequests();
        terminateRequests();
        idsOfAnswers();
        idsOfTerminateAcks();
        idsOfEchoReplies();
        noOptions();
        Check.end();
    }
}
