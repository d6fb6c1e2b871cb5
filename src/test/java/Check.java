import java.util.Arrays;

/** What the tests share: counting wrong answers, and a view of all that the getters show. */
final class Check {
    private static final int ITEMS = 13 + 4 * 7;

    private static int calls = 0;
    private static int wrong = 0;
    private static String sentence = "";

    private Check() {
    }

    /** The words of the document that the checks after this one stand for. */
    static void sentence(String where, String words) {
        sentence = where + ", '" + words + "' ";
    }

    static void due(String what, long got, long want) {
        calls++;
        if (got != want) {
            wrong++;
            System.out.println(sentence + what + " answered " + got + ", due is " + want);
        }
    }

    static void due(String what, boolean got, boolean want) {
        due(what, got ? 1L : 0L, want ? 1L : 0L);
    }

    /** Every item of both peers and every field of both wires, in a fixed order. */
    static int[] everything(PppNegotiator x) {
        int[] all = new int[2 * (13 + 4 * 7 + 1 + 8 * 7)];
        int n = 0;
        for (int p = 0; p < 2; p++) {
            for (int what = 0; what < 13; what++) {
                all[n++] = x.peerInfo(p, what);
            }
            for (int o = 0; o < 4; o++) {
                for (int what = 0; what < 7; what++) {
                    all[n++] = x.optionInfo(p, o, what);
                }
            }
            all[n++] = x.wireSize(p);
            for (int pos = 0; pos < 8; pos++) {
                for (int field = 0; field < 7; field++) {
                    all[n++] = x.wireInfo(p, pos, field);
                }
            }
        }
        return all;
    }

    /** Every item of both peers, without the wires. */
    static int[] items(PppNegotiator x) {
        int[] all = everything(x);
        int half = all.length / 2;
        int[] items = new int[2 * ITEMS];
        System.arraycopy(all, 0, items, 0, ITEMS);
        System.arraycopy(all, half, items, ITEMS, ITEMS);
        return items;
    }

    /** The size of one wire and every field of its messages. */
    static int[] wire(PppNegotiator x, int dir) {
        int[] all = everything(x);
        int first = dir * all.length / 2 + ITEMS;
        return Arrays.copyOfRange(all, first, first + 1 + 8 * 7);
    }

    /** Numbers just outside a range and far outside, also such as a narrower type would let in. */
    static int[] outside(int least, int greatest) {
        return new int[] {Integer.MIN_VALUE, least - 65536, least - 256, least - 1,
            greatest + 1, least + 256, least + 65536, Integer.MAX_VALUE};
    }

    static void same(String what, int[] got, int[] want) {
        due(what, Arrays.equals(got, want), true);
    }

    static void unchanged(String what, PppNegotiator x, int[] before) {
        due(what + " changed nothing", Arrays.equals(everything(x), before), true);
    }

    /** The call is refused: it answers false and nothing changes. */
    static void refused(String what, PppNegotiator x, boolean answer, int[] before) {
        due(what, answer, false);
        unchanged(what, x, before);
    }

    /** Several items of a peer at once: selector, value, selector, value ... */
    static void peer(String what, PppNegotiator x, int peer, int... items) {
        for (int i = 0; i < items.length; i += 2) {
            due(what + ": peerInfo(" + peer + ", " + items[i] + ")",
                x.peerInfo(peer, items[i]), items[i + 1]);
        }
    }

    /** One selector of all four options of a peer. */
    static void options(String what, PppNegotiator x, int peer, int selector, int... values) {
        for (int o = 0; o < 4; o++) {
            due(what + ": optionInfo(" + peer + ", " + o + ", " + selector + ")",
                x.optionInfo(peer, o, selector), values[o]);
        }
    }

    /** The seven fields of the message at a position: code, id, data and four options. */
    static void message(String what, PppNegotiator x, int dir, int pos, int... fields) {
        for (int f = 0; f < 7; f++) {
            due(what + ": wireInfo(" + dir + ", " + pos + ", " + f + ")",
                x.wireInfo(dir, pos, f), fields[f]);
        }
    }

    static void end() {
        System.out.println(calls + " answers looked at, " + wrong + " wrong");
        if (wrong != 0 || calls == 0) {
            System.exit(1);
        }
    }
}
