import java.util.ArrayList;
import java.util.HashMap;
import java.util.List;
import java.util.Map;
import java.util.Set;
import java.util.TreeSet;

/**
 * A second reading of the document, made to differ from the program in every way it can: it
 * interprets the text of the transitions, as the document has it, over objects and lists.
 */
final class Model {
    private static final String[] TRANSITIONS = {
        "Up: 0 -> 2; 1: start, ircC, scr -> 6",
        "Down: 2 -> 0; 3: tls -> 1; 4 -> 0; 5, 6, 7, 8 -> 1; 9: tld -> 1",
        "Open: 0: tls -> 1; 2: start, ircC, scr -> 6; 4 -> 5",
        "Close: 1: tlf -> 0; 3 -> 2; 5 -> 4; 6, 7, 8: ircT, str -> 4; 9: tld, ircT, str -> 4",
        "TO+: 4: str; 5: str; 6: scr; 7: scr -> 6; 8: scr",
        "TO-: 4: tlf -> 2; 5: tlf -> 3; 6, 7, 8: tlf -> 3",
        "RCR+: 2: sta; 3: ircC, scr, sca -> 8; 6: sca -> 8; 7: sca, tlu -> 9; 8: sca;"
            + " 9: tld, scr, sca -> 8",
        "RCR-: 2: sta; 3: ircC, scr, scn -> 6; 6: scn; 7: scn; 8: scn -> 6; 9: tld, scr, scn -> 6",
        "RCA: 2: sta; 3: sta; 6: ircC -> 7; 7: scr -> 6; 8: ircC, tlu -> 9; 9: tld, scr -> 6",
        "RCN: 2: sta; 3: sta; 6: ADOPT, ircC, scr; 7: ADOPT, scr -> 6; 8: ADOPT, ircC, scr;"
            + " 9: ADOPT, tld, scr -> 6",
        "RTR: 2..6: sta; 7, 8: sta -> 6; 9: tld, zrc, sta -> 5",
        "RTA: 4: tlf -> 2; 5: tlf -> 3; 7 -> 6; 9: tld, scr -> 6",
        "RUC: 2..9: scj",
        "RXJ+: 7 -> 6",
        "RXJ-: 2: tlf; 3: tlf; 4: tlf -> 2; 5: tlf -> 3; 6, 7, 8: tlf -> 3;"
            + " 9: tld, ircT, str -> 5",
        "RXR: 9: RXR",
    };

    private static final class Rule {
        final List<String> actions = new ArrayList<>();
        int next = -1;
    }

    private static final class Peer {
        int state, restart, timer, nextId, crId, highCr, naks, missed, echoId;
        int ups, downs, starts, finishes;
        final int[] lo = {64, 1, 1, 0};
        final int[] hi = {1500, 0, 65535, 15};
        final int[] want = {1500, 0, 65535, 15};
        final boolean[] included = {true, false, true, true};
        int[] sent = {-1, -1, -1, -1};
        int[] local = {-1, -1, -1, -1};
        int[] remote = {-1, -1, -1, -1};
    }

    private static final class Message {
        final int code, id, data;
        final int[] options;

        Message(int code, int id, int data, int... options) {
            this.code = code;
            this.id = id;
            this.data = data;
            this.options = options.length == 0 ? new int[] {-1, -1, -1, -1} : options.clone();
        }
    }

    private final Map<String, Rule> rules = new HashMap<>();
    private final int maxConfigure, maxTerminate, maxFailure, restartTicks;
    private final Peer[] peers = {new Peer(), new Peer()};
    private final List<List<Message>> wires = List.of(new ArrayList<>(), new ArrayList<>());
    private Message received;
    private Message refusal;

    /** What the runs have met, so that a test can ask whether they went everywhere. */
    final Set<String> met;

    Model(int maxConfigure, int maxTerminate, int maxFailure, int restartTicks, Set<String> met) {
        this.maxConfigure = Math.max(1, Math.min(10, maxConfigure));
        this.maxTerminate = Math.max(1, Math.min(4, maxTerminate));
        this.maxFailure = Math.max(1, Math.min(5, maxFailure));
        this.restartTicks = Math.max(1, Math.min(4, restartTicks));
        this.met = met;
        for (String line : TRANSITIONS) {
            int colon = line.indexOf(':');
            String event = line.substring(0, colon);
            for (String part : line.substring(colon + 1).split(";")) {
                readRule(event, part);
            }
        }
    }

    private void readRule(String event, String part) {
        Rule rule = new Rule();
        String[] arrow = part.split("->");
        if (arrow.length == 2) {
            rule.next = Integer.parseInt(arrow[1].trim());
        }
        String[] sides = arrow[0].split(":");
        if (sides.length == 2) {
            for (String action : sides[1].split(",")) {
                rule.actions.add(action.trim());
            }
        }
        for (String states : sides[0].split(",")) {
            String[] ends = states.trim().split("\\.\\.");
            int last = Integer.parseInt(ends[ends.length - 1]);
            for (int s = Integer.parseInt(ends[0]); s <= last; s++) {
                rules.put(event + " " + s, rule);
            }
        }
    }

    /** The events and states that a transition is written for. */
    static Set<String> written() {
        return new TreeSet<>(new Model(1, 1, 1, 1, new TreeSet<>()).rules.keySet());
    }

    private void event(String event, int p) {
        String key = event + " " + peers[p].state;
        met.add(key);
        Rule rule = rules.get(key);
        if (rule != null) {
            for (String action : rule.actions) {
                act(action, p);
            }
            if (rule.next >= 0) {
                peers[p].state = rule.next;
            }
        }
        if (peers[p].state < 4 || peers[p].state > 8) {
            peers[p].timer = 0;
        }
    }

    private void act(String action, int p) {
        Peer q = peers[p];
        switch (action) {
            case "start" -> start(q);
            case "ircC" -> q.restart = maxConfigure;
            case "ircT" -> q.restart = maxTerminate;
            case "zrc" -> {
                q.restart = 0;
                q.timer = restartTicks;
            }
            case "scr" -> {
                q.crId = ++q.nextId;
                for (int o = 0; o < 4; o++) {
                    q.sent[o] = q.included[o] ? q.want[o] : -1;
                }
                send(p, new Message(1, q.crId, 0, q.sent));
                q.restart = Math.max(0, q.restart - 1);
                q.timer = restartTicks;
            }
            case "str" -> {
                send(p, new Message(5, ++q.nextId, 0));
                q.restart = Math.max(0, q.restart - 1);
                q.timer = restartTicks;
            }
            case "sca" -> {
                send(p, new Message(2, received.id, 0, received.options));
                q.remote = received.options.clone();
                q.naks = 0;
            }
            case "scn" -> {
                send(p, refusal);
                q.naks += refusal.code == 3 ? 1 : 0;
            }
            case "sta" -> send(p, new Message(6, received.id, 0));
            case "scj" -> send(p, new Message(7, ++q.nextId, received.code));
            case "tlu" -> {
                q.ups++;
                q.missed = 0;
            }
            case "tld" -> q.downs++;
            case "tls" -> q.starts++;
            case "tlf" -> q.finishes++;
            case "ADOPT" -> adopt(q);
            case "RXR" -> {
                if (received.code == 9) {
                    send(p, new Message(10, received.id, 0));
                } else if (received.code == 10) {
                    met.add("echo reply " + (received.id == q.echoId));
                    q.missed = received.id == q.echoId ? 0 : q.missed;
                }
            }
            default -> throw new IllegalStateException(action);
        }
    }

    private void start(Peer q) {
        for (int o = 0; o < 4; o++) {
            q.want[o] = q.hi[o];
            q.included[o] = q.lo[o] <= q.hi[o];
        }
        q.naks = 0;
    }

    private void adopt(Peer q) {
        for (int o = 0; o < 4; o++) {
            int value = received.options[o];
            if (value == -1) {
                continue;
            }
            if (received.code == 4) {
                met.add("adopt a reject");
                q.included[o] = false;
            } else {
                met.add("adopt a nak " + (value < q.lo[o] ? "below" : value > q.hi[o] ? "above" : "in"));
                q.want[o] = Math.min(q.hi[o], Math.max(q.lo[o], value));
            }
        }
    }

    private void send(int p, Message m) {
        if (wires.get(p).size() < 8) {
            wires.get(p).add(m);
        } else {
            met.add("lost " + m.code);
        }
    }

    private void receive(int p, Message m) {
        Peer q = peers[p];
        received = m;
        if (q.state < 2) {
            met.add("discarded in " + q.state);
            return;
        }
        switch (m.code) {
            case 1 -> {
                met.add("request " + Integer.signum(m.id - q.highCr));
                if (m.id >= q.highCr) {
                    q.highCr = m.id;
                    if (q.state == 3) {
                        start(q);
                    }
                    event(classify(q, m) ? "RCR+" : "RCR-", p);
                }
            }
            case 2 -> {
                boolean valid = m.id == q.crId;
                for (int o = 0; o < 4; o++) {
                    valid &= m.options[o] == q.sent[o];
                }
                met.add("ack " + valid);
                if (valid) {
                    if (q.state == 6 || q.state == 8) {
                        q.local = q.sent.clone();
                    }
                    event("RCA", p);
                }
            }
            case 3, 4 -> {
                boolean valid = m.id == q.crId;
                for (int o = 0; o < 4; o++) {
                    boolean fits = m.code == 3 ? q.sent[o] != -1 : q.sent[o] == m.options[o];
                    valid &= m.options[o] == -1 || fits;
                }
                met.add((m.code == 3 ? "nak " : "reject ") + valid);
                if (valid) {
                    event("RCN", p);
                }
            }
            case 5 -> event("RTR", p);
            case 6 -> event("RTA", p);
            case 7 -> event(m.data >= 1 && m.data <= 7 ? "RXJ-" : "RXJ+", p);
            case 9, 10, 11 -> event("RXR", p);
            default -> event("RUC", p);
        }
    }

    private boolean classify(Peer q, Message m) {
        Map<Integer, Integer> rejected = new HashMap<>();
        Map<Integer, Integer> nakked = new HashMap<>();
        Map<Integer, Integer> nakkedAsReceived = new HashMap<>();
        for (int o = 0; o < 4; o++) {
            int v = m.options[o];
            if (v == -1) {
                continue;
            }
            if (q.lo[o] > q.hi[o]) {
                rejected.put(o, v);
            } else if (v < q.lo[o] || v > q.hi[o]) {
                nakked.put(o, v < q.lo[o] ? q.lo[o] : q.hi[o]);
                nakkedAsReceived.put(o, v);
            } else if (o == 2 && q.included[o] && v == q.want[o]) {
                int other = v - 1 >= q.lo[o] ? v - 1 : v + 1 <= q.hi[o] ? v + 1 : v;
                met.add("magic " + Integer.signum(other - v));
                nakked.put(o, other);
                nakkedAsReceived.put(o, v);
            }
        }
        if (rejected.isEmpty() && nakked.isEmpty()) {
            return true;
        }
        if (!rejected.isEmpty()) {
            met.add("rejected" + (nakked.isEmpty() ? "" : " beside nakked"));
            refusal = refusal(4, m.id, rejected);
        } else if (q.naks >= maxFailure) {
            met.add("too many naks");
            refusal = refusal(4, m.id, nakkedAsReceived);
        } else {
            refusal = refusal(3, m.id, nakked);
        }
        return false;
    }

    private static Message refusal(int code, int id, Map<Integer, Integer> named) {
        int[] options = {-1, -1, -1, -1};
        named.forEach((o, v) -> options[o] = v);
        return new Message(code, id, 0, options);
    }

    // ---- The face ----

    private static boolean isEnd(int n) {
        return n == 0 || n == 1;
    }

    boolean setRange(int p, int o, int lo, int hi) {
        if (!isEnd(p) || o < 0 || o > 3 || peers[p].state > 3) {
            return false;
        }
        peers[p].lo[o] = Math.max(0, Math.min(65535, lo));
        peers[p].hi[o] = Math.max(0, Math.min(65535, hi));
        return true;
    }

    boolean open(int p) {
        if (isEnd(p)) {
            event("Open", p);
        }
        return isEnd(p);
    }

    boolean close(int p) {
        if (isEnd(p)) {
            event("Close", p);
        }
        return isEnd(p);
    }

    boolean up(int p) {
        if (!isEnd(p) || peers[p].state >= 2) {
            return false;
        }
        event("Up", p);
        return true;
    }

    boolean down(int p) {
        if (!isEnd(p) || peers[p].state < 2) {
            return false;
        }
        event("Down", p);
        return true;
    }

    void tick() {
        for (int p = 0; p < 2; p++) {
            Peer q = peers[p];
            if (q.state >= 4 && q.state <= 8 && q.timer > 0 && --q.timer == 0) {
                event(q.restart > 0 ? "TO+" : "TO-", p);
            }
        }
    }

    int deliver(int d) {
        if (!isEnd(d) || wires.get(d).isEmpty()) {
            return -1;
        }
        Message m = wires.get(d).remove(0);
        receive(1 - d, m);
        return m.code;
    }

    boolean drop(int d) {
        if (!isEnd(d) || wires.get(d).isEmpty()) {
            return false;
        }
        wires.get(d).remove(0);
        return true;
    }

    boolean duplicate(int d) {
        if (!isEnd(d) || wires.get(d).isEmpty() || wires.get(d).size() == 8) {
            return false;
        }
        wires.get(d).add(wires.get(d).get(0));
        return true;
    }

    boolean rotate(int d) {
        if (!isEnd(d) || wires.get(d).isEmpty()) {
            return false;
        }
        wires.get(d).add(wires.get(d).remove(0));
        return true;
    }

    boolean echo(int p) {
        if (!isEnd(p) || peers[p].state != 9) {
            return false;
        }
        Peer q = peers[p];
        if (q.missed >= 3) {
            met.add("echo limit");
            event("Down", p);
            event("Up", p);
            q.missed = 0;
        } else {
            q.echoId = ++q.nextId;
            send(p, new Message(9, q.echoId, 0));
            q.missed++;
        }
        return true;
    }

    boolean inject(int d, int code, int data) {
        if (!isEnd(d) || Set.of(1, 2, 3, 4, 5, 6, 9, 10).contains(code) || wires.get(d).size() == 8) {
            return false;
        }
        wires.get(d).add(new Message(code, 0, data));
        return true;
    }

    /** The same items in the same order as Check.everything. */
    int[] everything() {
        int[] all = new int[2 * (13 + 4 * 7 + 1 + 8 * 7)];
        int n = 0;
        for (int p = 0; p < 2; p++) {
            Peer q = peers[p];
            int[] items = {q.state, q.restart, q.timer, q.nextId, q.crId, q.highCr, q.naks,
                q.missed, q.echoId, q.ups, q.downs, q.starts, q.finishes};
            for (int item : items) {
                all[n++] = item;
            }
            for (int o = 0; o < 4; o++) {
                int[] option = {q.lo[o], q.hi[o], q.want[o], q.included[o] ? 1 : 0, q.sent[o],
                    q.local[o], q.remote[o]};
                for (int item : option) {
                    all[n++] = item;
                }
            }
            List<Message> wire = wires.get(p);
            all[n++] = wire.size();
            for (int pos = 0; pos < 8; pos++) {
                Message m = pos < wire.size() ? wire.get(pos) : new Message(-1, -1, -1);
                int[] fields = {m.code, m.id, m.data,
                    m.options[0], m.options[1], m.options[2], m.options[3]};
                for (int field : fields) {
                    all[n++] = field;
                }
            }
        }
        return all;
    }
}
