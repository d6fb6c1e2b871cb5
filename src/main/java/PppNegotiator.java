/**
 * Two peers that negotiate link options over two one-way wires.
 *
 * The short names in the comments (scr, tlu, RCR+ and so on) are the document's, so that each
 * method can be held against the line it comes from.
 */
public final class PppNegotiator {
    public static final int STATE_INITIAL = 0;
    public static final int STATE_STARTING = 1;
    public static final int STATE_CLOSED = 2;
    public static final int STATE_STOPPED = 3;
    public static final int STATE_CLOSING = 4;
    public static final int STATE_STOPPING = 5;
    public static final int STATE_REQ_SENT = 6;
    public static final int STATE_ACK_RCVD = 7;
    public static final int STATE_ACK_SENT = 8;
    public static final int STATE_OPENED = 9;
    public static final int CODE_CONF_REQ = 1;
    public static final int CODE_CONF_ACK = 2;
    public static final int CODE_CONF_NAK = 3;
    public static final int CODE_CONF_REJ = 4;
    public static final int CODE_TERM_REQ = 5;
    public static final int CODE_TERM_ACK = 6;
    public static final int CODE_CODE_REJ = 7;
    public static final int CODE_ECHO_REQ = 9;
    public static final int CODE_ECHO_REP = 10;
    public static final int CODE_DISCARD = 11;
    public static final int OPT_MRU = 0;
    public static final int OPT_AUTH = 1;
    public static final int OPT_MAGIC = 2;
    public static final int OPT_COMP = 3;
    public static final int NONE = -1;
    public static final int VALUE_MAX = 65535;
    public static final int WIRE_CAP = 8;
    public static final int ECHO_LIMIT = 3;
    public static final int INFO_STATE = 0;
    public static final int INFO_RESTART = 1;
    public static final int INFO_TIMER = 2;
    public static final int INFO_NEXT_ID = 3;
    public static final int INFO_CR_ID = 4;
    public static final int INFO_HIGH_CR = 5;
    public static final int INFO_NAKS = 6;
    public static final int INFO_MISSED = 7;
    public static final int INFO_ECHO_ID = 8;
    public static final int INFO_UPS = 9;
    public static final int INFO_DOWNS = 10;
    public static final int INFO_STARTS = 11;
    public static final int INFO_FINISHES = 12;
    public static final int OI_LO = 0;
    public static final int OI_HI = 1;
    public static final int OI_WANT = 2;
    public static final int OI_INCLUDED = 3;
    public static final int OI_SENT = 4;
    public static final int OI_LOCAL = 5;
    public static final int OI_REMOTE = 6;
    public static final int W_CODE = 0;
    public static final int W_ID = 1;
    public static final int W_DATA = 2;
    public static final int W_OPT = 3;

    private static final int PEERS = 2;
    private static final int OPTIONS = 4;
    private static final int FIELDS = 7;
    private static final int OPTION_CELLS = PEERS * OPTIONS;
    private static final int WIRE_CELLS = PEERS * WIRE_CAP * FIELDS;

    // Verdicts on an option other than a suggestion; a suggestion is never negative.
    private static final int ACCEPTABLE = -1;
    private static final int REJECTED = -2;

    private final int maxConfigure;
    private final int maxTerminate;
    private final int maxFailure;
    private final int restartTicks;

    // One cell a peer.
    private final int[] state = new int[PEERS];
    private final int[] restart = new int[PEERS];
    private final int[] timer = new int[PEERS];
    private final int[] nextId = new int[PEERS];
    private final int[] crId = new int[PEERS];
    private final int[] highCr = new int[PEERS];
    private final int[] naks = new int[PEERS];
    private final int[] missed = new int[PEERS];
    private final int[] echoId = new int[PEERS];
    private final int[] ups = new int[PEERS];
    private final int[] downs = new int[PEERS];
    private final int[] starts = new int[PEERS];
    private final int[] finishes = new int[PEERS];

    // One cell an option of a peer, at peer * OPTIONS + option.
    private final int[] lo = new int[OPTION_CELLS];
    private final int[] hi = new int[OPTION_CELLS];
    private final int[] want = new int[OPTION_CELLS];
    private final boolean[] included = new boolean[OPTION_CELLS];
    private final int[] sent = new int[OPTION_CELLS];
    private final int[] local = new int[OPTION_CELLS];
    private final int[] remote = new int[OPTION_CELLS];

    // FIELDS cells a message, in the order of the W_ selectors; the head stands first on its wire.
    private final int[] wire = new int[WIRE_CELLS];
    private final int[] queued = new int[PEERS];

    // The message last taken off a wire. It outlives its place there, which a reply may need.
    private final int[] inHand = new int[FIELDS];

    // What CLASSIFY found. Kept apart from the wires because scr may come before the reply.
    private final int[] verdict = new int[OPTIONS];
    private final int[] replyOptions = new int[OPTIONS];
    private int replyCode;

    private final int[] noOptions = new int[OPTIONS];

    public PppNegotiator(int maxConfigure, int maxTerminate, int maxFailure, int restartTicks) {
        this.maxConfigure = clamp(maxConfigure, 1, 10);
        this.maxTerminate = clamp(maxTerminate, 1, 4);
        this.maxFailure = clamp(maxFailure, 1, 5);
        this.restartTicks = clamp(restartTicks, 1, 4);
        for (int o = 0; o < OPTIONS; o++) {
            noOptions[o] = NONE;
        }
        for (int p = 0; p < PEERS; p++) {
            makeOption(p, OPT_MRU, 64, 1500);
            makeOption(p, OPT_AUTH, 1, 0);
            makeOption(p, OPT_MAGIC, 1, VALUE_MAX);
            makeOption(p, OPT_COMP, 0, 15);
            startNegotiation(p);
        }
    }

    public boolean setRange(int peer, int opt, int lo, int hi) {
        if (!isEnd(peer) || !isOption(opt) || state[peer] >= STATE_CLOSING) {
            return false;
        }
        int i = peer * OPTIONS + opt;
        this.lo[i] = clamp(lo, 0, VALUE_MAX);
        this.hi[i] = clamp(hi, 0, VALUE_MAX);
        return true;
    }

    public boolean open(int peer) {
        if (!isEnd(peer)) {
            return false;
        }
        onOpen(peer);
        settleTimer(peer);
        return true;
    }

    public boolean close(int peer) {
        if (!isEnd(peer)) {
            return false;
        }
        onClose(peer);
        settleTimer(peer);
        return true;
    }

    public boolean up(int peer) {
        if (!isEnd(peer) || state[peer] > STATE_STARTING) {
            return false;
        }
        onUp(peer);
        settleTimer(peer);
        return true;
    }

    public boolean down(int peer) {
        if (!isEnd(peer) || state[peer] <= STATE_STARTING) {
            return false;
        }
        onDown(peer);
        settleTimer(peer);
        return true;
    }

    public void tick() {
        for (int p = 0; p < PEERS; p++) {
            if (isTimed(p) && timer[p] > 0) {
                timer[p]--;
                if (timer[p] == 0) {
                    onTimeout(p);
                    settleTimer(p);
                }
            }
        }
    }

    public int deliver(int dir) {
        if (!hasMessage(dir)) {
            return -1;
        }
        takeHead(dir);
        int receiver = 1 - dir;
        if (state[receiver] > STATE_STARTING) {
            receive(receiver);
            settleTimer(receiver);
        }
        return inHand[W_CODE];
    }

    public boolean drop(int dir) {
        if (!hasMessage(dir)) {
            return false;
        }
        takeHead(dir);
        return true;
    }

    public boolean duplicate(int dir) {
        if (!hasMessage(dir) || queued[dir] >= WIRE_CAP) {
            return false;
        }
        int head = dir * WIRE_CAP * FIELDS;
        int tail = head + queued[dir] * FIELDS;
        for (int f = 0; f < FIELDS; f++) {
            wire[tail + f] = wire[head + f];
        }
        queued[dir]++;
        return true;
    }

    public boolean rotate(int dir) {
        if (!hasMessage(dir)) {
            return false;
        }
        takeHead(dir);
        append(dir, inHand[W_CODE], inHand[W_ID], inHand[W_DATA], inHand, W_OPT);
        return true;
    }

    public boolean echo(int peer) {
        if (!isEnd(peer) || state[peer] != STATE_OPENED) {
            return false;
        }
        if (missed[peer] >= ECHO_LIMIT) {
            onDown(peer);
            onUp(peer);
            settleTimer(peer);
            missed[peer] = 0;
            return true;
        }
        nextId[peer]++;
        echoId[peer] = nextId[peer];
        append(peer, CODE_ECHO_REQ, echoId[peer], 0, noOptions, 0);
        missed[peer]++;
        return true;
    }

    public boolean inject(int dir, int code, int data) {
        if (!isEnd(dir) || isPeersOwnCode(code) || queued[dir] >= WIRE_CAP) {
            return false;
        }
        append(dir, code, 0, data, noOptions, 0);
        return true;
    }

    public int peerInfo(int peer, int what) {
        if (!isEnd(peer)) {
            return -1;
        }
        switch (what) {
            case INFO_STATE: return state[peer];
            case INFO_RESTART: return restart[peer];
            case INFO_TIMER: return timer[peer];
            case INFO_NEXT_ID: return nextId[peer];
            case INFO_CR_ID: return crId[peer];
            case INFO_HIGH_CR: return highCr[peer];
            case INFO_NAKS: return naks[peer];
            case INFO_MISSED: return missed[peer];
            case INFO_ECHO_ID: return echoId[peer];
            case INFO_UPS: return ups[peer];
            case INFO_DOWNS: return downs[peer];
            case INFO_STARTS: return starts[peer];
            case INFO_FINISHES: return finishes[peer];
            default: return -1;
        }
    }

    public int optionInfo(int peer, int opt, int what) {
        if (!isEnd(peer) || !isOption(opt)) {
            return -1;
        }
        int i = peer * OPTIONS + opt;
        switch (what) {
            case OI_LO: return lo[i];
            case OI_HI: return hi[i];
            case OI_WANT: return want[i];
            case OI_INCLUDED: return included[i] ? 1 : 0;
            case OI_SENT: return sent[i];
            case OI_LOCAL: return local[i];
            case OI_REMOTE: return remote[i];
            default: return -1;
        }
    }

    public int wireSize(int dir) {
        return isEnd(dir) ? queued[dir] : -1;
    }

    public int wireInfo(int dir, int pos, int field) {
        if (!isEnd(dir) || pos < 0 || pos >= queued[dir] || field < 0 || field >= FIELDS) {
            return -1;
        }
        return wire[(dir * WIRE_CAP + pos) * FIELDS + field];
    }

    // ---- Questions ----

    private static int clamp(int value, int least, int greatest) {
        if (value < least) {
            return least;
        }
        return value > greatest ? greatest : value;
    }

    /** A peer and the wire it sends on bear the same number. */
    private static boolean isEnd(int number) {
        return number == 0 || number == 1;
    }

    private static boolean isOption(int opt) {
        return opt >= 0 && opt < OPTIONS;
    }

    /** Codes that only the peers may put on a wire; Code-Reject and Discard are not among them. */
    private static boolean isPeersOwnCode(int code) {
        return (code >= CODE_CONF_REQ && code <= CODE_TERM_ACK)
            || code == CODE_ECHO_REQ || code == CODE_ECHO_REP;
    }

    private boolean hasMessage(int dir) {
        return isEnd(dir) && queued[dir] > 0;
    }

    /** The states in which the restart timer runs. */
    private boolean isTimed(int p) {
        return state[p] >= STATE_CLOSING && state[p] <= STATE_ACK_SENT;
    }

    // ---- Wires ----

    private void takeHead(int dir) {
        int head = dir * WIRE_CAP * FIELDS;
        for (int f = 0; f < FIELDS; f++) {
            inHand[f] = wire[head + f];
        }
        queued[dir]--;
        int end = head + queued[dir] * FIELDS;
        for (int cell = head; cell < end; cell++) {
            wire[cell] = wire[cell + FIELDS];
        }
    }

    /** Takes the option fields from options[first] on. On a full wire the message is lost. */
    private void append(int dir, int code, int id, int data, int[] options, int first) {
        if (queued[dir] >= WIRE_CAP) {
            return;
        }
        int tail = (dir * WIRE_CAP + queued[dir]) * FIELDS;
        wire[tail + W_CODE] = code;
        wire[tail + W_ID] = id;
        wire[tail + W_DATA] = data;
        for (int o = 0; o < OPTIONS; o++) {
            wire[tail + W_OPT + o] = options[first + o];
        }
        queued[dir]++;
    }

    // ---- Events from the caller ----

    private void onUp(int p) {
        if (state[p] == STATE_INITIAL) {
            state[p] = STATE_CLOSED;
        } else if (state[p] == STATE_STARTING) {
            beginRequests(p);
        }
    }

    private void onDown(int p) {
        switch (state[p]) {
            case STATE_CLOSED:
            case STATE_CLOSING:
                state[p] = STATE_INITIAL;
                break;
            case STATE_STOPPED:
                starts[p]++;
                state[p] = STATE_STARTING;
                break;
            case STATE_STOPPING:
            case STATE_REQ_SENT:
            case STATE_ACK_RCVD:
            case STATE_ACK_SENT:
                state[p] = STATE_STARTING;
                break;
            case STATE_OPENED:
                downs[p]++;
                state[p] = STATE_STARTING;
                break;
            default:
                break;
        }
    }

    private void onOpen(int p) {
        switch (state[p]) {
            case STATE_INITIAL:
                starts[p]++;
                state[p] = STATE_STARTING;
                break;
            case STATE_CLOSED:
                beginRequests(p);
                break;
            case STATE_CLOSING:
                state[p] = STATE_STOPPING;
                break;
            default:
                break;
        }
    }

    private void onClose(int p) {
        switch (state[p]) {
            case STATE_STARTING:
                finishes[p]++;
                state[p] = STATE_INITIAL;
                break;
            case STATE_STOPPED:
                state[p] = STATE_CLOSED;
                break;
            case STATE_STOPPING:
                state[p] = STATE_CLOSING;
                break;
            case STATE_REQ_SENT:
            case STATE_ACK_RCVD:
            case STATE_ACK_SENT:
                beginTermination(p, STATE_CLOSING);
                break;
            case STATE_OPENED:
                downs[p]++;
                beginTermination(p, STATE_CLOSING);
                break;
            default:
                break;
        }
    }

    /** TO+ while requests are left, else TO-. */
    private void onTimeout(int p) {
        if (restart[p] <= 0) {
            finish(p);
        } else if (state[p] == STATE_CLOSING || state[p] == STATE_STOPPING) {
            sendTerminateRequest(p);
        } else {
            sendConfigureRequest(p);
            if (state[p] == STATE_ACK_RCVD) {
                state[p] = STATE_REQ_SENT;
            }
        }
    }

    // ---- RECEPTION of the message in hand ----

    private void receive(int p) {
        switch (inHand[W_CODE]) {
            case CODE_CONF_REQ:
                receiveRequest(p);
                break;
            case CODE_CONF_ACK:
                receiveAck(p);
                break;
            case CODE_CONF_NAK:
                if (isValidNak(p)) {
                    onRefusal(p);
                }
                break;
            case CODE_CONF_REJ:
                if (isValidReject(p)) {
                    onRefusal(p);
                }
                break;
            case CODE_TERM_REQ:
                onTerminateRequest(p);
                break;
            case CODE_TERM_ACK:
                onTerminateAck(p);
                break;
            case CODE_CODE_REJ:
                onCodeReject(p);
                break;
            case CODE_ECHO_REQ:
            case CODE_ECHO_REP:
            case CODE_DISCARD:
                onKeepalive(p);
                break;
            default:
                sendCodeReject(p);
                break;
        }
    }

    private void receiveRequest(int p) {
        if (inHand[W_ID] < highCr[p]) {
            return;
        }
        highCr[p] = inHand[W_ID];
        if (state[p] == STATE_STOPPED) {
            startNegotiation(p);
        }
        classify(p);
        if (replyCode == CODE_CONF_ACK) {
            onGoodRequest(p);
        } else {
            onBadRequest(p);
        }
    }

    private void receiveAck(int p) {
        if (!isValidAck(p)) {
            return;
        }
        if (state[p] == STATE_REQ_SENT || state[p] == STATE_ACK_SENT) {
            for (int o = 0; o < OPTIONS; o++) {
                local[p * OPTIONS + o] = sent[p * OPTIONS + o];
            }
        }
        onAck(p);
    }

    private boolean isValidAck(int p) {
        boolean valid = inHand[W_ID] == crId[p];
        for (int o = 0; o < OPTIONS; o++) {
            valid = valid && inHand[W_OPT + o] == sent[p * OPTIONS + o];
        }
        return valid;
    }

    private boolean isValidNak(int p) {
        boolean valid = inHand[W_ID] == crId[p];
        for (int o = 0; o < OPTIONS; o++) {
            valid = valid && (inHand[W_OPT + o] == NONE || sent[p * OPTIONS + o] != NONE);
        }
        return valid;
    }

    private boolean isValidReject(int p) {
        boolean valid = inHand[W_ID] == crId[p];
        for (int o = 0; o < OPTIONS; o++) {
            int value = inHand[W_OPT + o];
            valid = valid && (value == NONE || value == sent[p * OPTIONS + o]);
        }
        return valid;
    }

    /** RCR+ */
    private void onGoodRequest(int p) {
        switch (state[p]) {
            case STATE_CLOSED:
                sendTerminateAck(p);
                break;
            case STATE_STOPPED:
                restart[p] = maxConfigure;
                sendConfigureRequest(p);
                sendConfigureAck(p);
                state[p] = STATE_ACK_SENT;
                break;
            case STATE_REQ_SENT:
            case STATE_ACK_SENT:
                sendConfigureAck(p);
                state[p] = STATE_ACK_SENT;
                break;
            case STATE_ACK_RCVD:
                sendConfigureAck(p);
                layerUp(p);
                state[p] = STATE_OPENED;
                break;
            case STATE_OPENED:
                downs[p]++;
                sendConfigureRequest(p);
                sendConfigureAck(p);
                state[p] = STATE_ACK_SENT;
                break;
            default:
                break;
        }
    }

    /** RCR- */
    private void onBadRequest(int p) {
        switch (state[p]) {
            case STATE_CLOSED:
                sendTerminateAck(p);
                break;
            case STATE_STOPPED:
                restart[p] = maxConfigure;
                sendConfigureRequest(p);
                sendRefusal(p);
                state[p] = STATE_REQ_SENT;
                break;
            case STATE_REQ_SENT:
            case STATE_ACK_SENT:
                sendRefusal(p);
                state[p] = STATE_REQ_SENT;
                break;
            case STATE_ACK_RCVD:
                sendRefusal(p);
                break;
            case STATE_OPENED:
                downs[p]++;
                sendConfigureRequest(p);
                sendRefusal(p);
                state[p] = STATE_REQ_SENT;
                break;
            default:
                break;
        }
    }

    /** RCA */
    private void onAck(int p) {
        switch (state[p]) {
            case STATE_CLOSED:
            case STATE_STOPPED:
                sendTerminateAck(p);
                break;
            case STATE_REQ_SENT:
                restart[p] = maxConfigure;
                state[p] = STATE_ACK_RCVD;
                break;
            case STATE_ACK_RCVD:
                sendConfigureRequest(p);
                state[p] = STATE_REQ_SENT;
                break;
            case STATE_ACK_SENT:
                restart[p] = maxConfigure;
                layerUp(p);
                state[p] = STATE_OPENED;
                break;
            case STATE_OPENED:
                downs[p]++;
                sendConfigureRequest(p);
                state[p] = STATE_REQ_SENT;
                break;
            default:
                break;
        }
    }

    /** RCN, for a Nak and a Reject alike. */
    private void onRefusal(int p) {
        switch (state[p]) {
            case STATE_CLOSED:
            case STATE_STOPPED:
                sendTerminateAck(p);
                break;
            case STATE_REQ_SENT:
            case STATE_ACK_SENT:
                adopt(p);
                restart[p] = maxConfigure;
                sendConfigureRequest(p);
                break;
            case STATE_ACK_RCVD:
                adopt(p);
                sendConfigureRequest(p);
                state[p] = STATE_REQ_SENT;
                break;
            case STATE_OPENED:
                adopt(p);
                downs[p]++;
                sendConfigureRequest(p);
                state[p] = STATE_REQ_SENT;
                break;
            default:
                break;
        }
    }

    /** RTR */
    private void onTerminateRequest(int p) {
        if (state[p] == STATE_OPENED) {
            downs[p]++;
            restart[p] = 0;
            timer[p] = restartTicks;
            state[p] = STATE_STOPPING;
        } else if (state[p] == STATE_ACK_RCVD || state[p] == STATE_ACK_SENT) {
            state[p] = STATE_REQ_SENT;
        }
        sendTerminateAck(p);
    }

    /** RTA */
    private void onTerminateAck(int p) {
        switch (state[p]) {
            case STATE_CLOSING:
            case STATE_STOPPING:
                finish(p);
                break;
            case STATE_ACK_RCVD:
                state[p] = STATE_REQ_SENT;
                break;
            case STATE_OPENED:
                downs[p]++;
                sendConfigureRequest(p);
                state[p] = STATE_REQ_SENT;
                break;
            default:
                break;
        }
    }

    /** RXJ- for a code that the automaton can't do without, else RXJ+. */
    private void onCodeReject(int p) {
        int code = inHand[W_DATA];
        if (code < CODE_CONF_REQ || code > CODE_CODE_REJ) {
            if (state[p] == STATE_ACK_RCVD) {
                state[p] = STATE_REQ_SENT;
            }
        } else if (state[p] == STATE_OPENED) {
            downs[p]++;
            beginTermination(p, STATE_STOPPING);
        } else {
            finish(p);
        }
    }

    /** RXR */
    private void onKeepalive(int p) {
        if (state[p] != STATE_OPENED) {
            return;
        }
        if (inHand[W_CODE] == CODE_ECHO_REQ) {
            append(p, CODE_ECHO_REP, inHand[W_ID], 0, noOptions, 0);
        } else if (inHand[W_CODE] == CODE_ECHO_REP && inHand[W_ID] == echoId[p]) {
            missed[p] = 0;
        }
    }

    // ---- CLASSIFY ----

    /** Leaves the reply that is due in replyCode and replyOptions; an Ack there means RCR+. */
    private void classify(int p) {
        boolean anyRejected = false;
        boolean anyNakked = false;
        for (int o = 0; o < OPTIONS; o++) {
            verdict[o] = judge(p, o, inHand[W_OPT + o]);
            anyRejected = anyRejected || verdict[o] == REJECTED;
            anyNakked = anyNakked || isSuggestion(verdict[o]);
        }
        if (anyRejected) {
            replyCode = CODE_CONF_REJ;
        } else if (anyNakked) {
            replyCode = naks[p] >= maxFailure ? CODE_CONF_REJ : CODE_CONF_NAK;
        } else {
            replyCode = CODE_CONF_ACK;
        }
        for (int o = 0; o < OPTIONS; o++) {
            replyOptions[o] = replyOption(o, anyRejected);
        }
    }

    /** ACCEPTABLE (also for an absent option), REJECTED, or the suggestion of a Nak. */
    private int judge(int p, int o, int value) {
        int i = p * OPTIONS + o;
        if (value == NONE) {
            return ACCEPTABLE;
        }
        if (lo[i] > hi[i]) {
            return REJECTED;
        }
        if (value < lo[i]) {
            return lo[i];
        }
        if (value > hi[i]) {
            return hi[i];
        }
        if (o == OPT_MAGIC && included[i] && value == want[i]) {
            return otherMagic(i);
        }
        return ACCEPTABLE;
    }

    private int otherMagic(int i) {
        if (want[i] - 1 >= lo[i]) {
            return want[i] - 1;
        }
        return want[i] + 1 <= hi[i] ? want[i] + 1 : want[i];
    }

    private static boolean isSuggestion(int optionVerdict) {
        return optionVerdict >= 0;
    }

    private int replyOption(int o, boolean anyRejected) {
        if (replyCode == CODE_CONF_ACK) {
            return inHand[W_OPT + o];
        }
        boolean named = anyRejected ? verdict[o] == REJECTED : isSuggestion(verdict[o]);
        if (!named) {
            return NONE;
        }
        return replyCode == CODE_CONF_NAK ? verdict[o] : inHand[W_OPT + o];
    }

    // ---- Actions ----

    private void makeOption(int p, int o, int least, int greatest) {
        int i = p * OPTIONS + o;
        lo[i] = least;
        hi[i] = greatest;
        sent[i] = NONE;
        local[i] = NONE;
        remote[i] = NONE;
    }

    /** start */
    private void startNegotiation(int p) {
        for (int o = 0; o < OPTIONS; o++) {
            int i = p * OPTIONS + o;
            want[i] = hi[i];
            included[i] = lo[i] <= hi[i];
        }
        naks[p] = 0;
    }

    private void beginRequests(int p) {
        startNegotiation(p);
        restart[p] = maxConfigure;
        sendConfigureRequest(p);
        state[p] = STATE_REQ_SENT;
    }

    private void beginTermination(int p, int newState) {
        restart[p] = maxTerminate;
        sendTerminateRequest(p);
        state[p] = newState;
    }

    /** tlf, with the state that follows it wherever the peer gives up: Closed and Stopped stay. */
    private void finish(int p) {
        finishes[p]++;
        if (state[p] == STATE_CLOSING) {
            state[p] = STATE_CLOSED;
        } else if (state[p] > STATE_CLOSING) {
            state[p] = STATE_STOPPED;
        }
    }

    /** tlu */
    private void layerUp(int p) {
        ups[p]++;
        missed[p] = 0;
    }

    /** scr */
    private void sendConfigureRequest(int p) {
        int first = p * OPTIONS;
        nextId[p]++;
        crId[p] = nextId[p];
        for (int i = first; i < first + OPTIONS; i++) {
            sent[i] = included[i] ? want[i] : NONE;
        }
        append(p, CODE_CONF_REQ, crId[p], 0, sent, first);
        spendRequest(p);
    }

    /** str */
    private void sendTerminateRequest(int p) {
        nextId[p]++;
        append(p, CODE_TERM_REQ, nextId[p], 0, noOptions, 0);
        spendRequest(p);
    }

    private void spendRequest(int p) {
        if (restart[p] > 0) {
            restart[p]--;
        }
        timer[p] = restartTicks;
    }

    /** sca */
    private void sendConfigureAck(int p) {
        append(p, CODE_CONF_ACK, inHand[W_ID], 0, replyOptions, 0);
        for (int o = 0; o < OPTIONS; o++) {
            remote[p * OPTIONS + o] = replyOptions[o];
        }
        naks[p] = 0;
    }

    /** scn */
    private void sendRefusal(int p) {
        append(p, replyCode, inHand[W_ID], 0, replyOptions, 0);
        if (replyCode == CODE_CONF_NAK) {
            naks[p]++;
        }
    }

    /** sta */
    private void sendTerminateAck(int p) {
        append(p, CODE_TERM_ACK, inHand[W_ID], 0, noOptions, 0);
    }

    /** scj */
    private void sendCodeReject(int p) {
        nextId[p]++;
        append(p, CODE_CODE_REJ, nextId[p], inHand[W_CODE], noOptions, 0);
    }

    /** ADOPT */
    private void adopt(int p) {
        for (int o = 0; o < OPTIONS; o++) {
            int i = p * OPTIONS + o;
            int value = inHand[W_OPT + o];
            if (value == NONE) {
                continue;
            }
            if (inHand[W_CODE] == CODE_CONF_NAK) {
                want[i] = clamp(value, lo[i], hi[i]);
            } else {
                included[i] = false;
            }
        }
    }

    /** No timer is left running in a state that has none. */
    private void settleTimer(int p) {
        if (!isTimed(p)) {
            timer[p] = 0;
        }
    }
}
