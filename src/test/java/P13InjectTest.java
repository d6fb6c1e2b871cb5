/** Promise 13: which codes may be fed in, and what is then on the wire. */
public final class P13InjectTest {
    private static final String REFUSED = "Answers false and changes nothing if dir is not 0 or 1,"
        + " code is one of 1, 2, 3, 4, 5, 6, 9, 10, or wire dir is full.";

    private static void noSuchWire() {
        Check.sentence("Promise 13", REFUSED);
        PppNegotiator x = Scene.busy();
        int[] before = Check.everything(x);
        for (int dir : Check.outside(0, 1)) {
            for (int code : new int[] {7, 8, 11}) {
                Check.refused("inject(" + dir + ", " + code + ", 0)", x, x.inject(dir, code, 0), before);
            }
        }
    }

    private static void refusedCodes() {
        Check.sentence("Promise 13", REFUSED);
        PppNegotiator x = Scene.busy();
        int[] before = Check.everything(x);
        for (int code : new int[] {1, 2, 3, 4, 5, 6, 9, 10}) {
            for (int dir = 0; dir < 2; dir++) {
                Check.refused("inject(" + dir + ", " + code + ", 0)", x, x.inject(dir, code, 0), before);
            }
        }
    }

    /** The eighth finds room, the ninth does not, whatever its code. */
    private static void fullWire(int dir) {
        Check.sentence("Promise 13", REFUSED);
        PppNegotiator x = Scene.fresh();
        for (int i = 0; i < 8; i++) {
            Check.due("inject", x.inject(dir, 8, i), true);
            Check.due("size", x.wireSize(dir), i + 1);
        }
        int[] before = Check.everything(x);
        for (int code : new int[] {-1, 0, 1, 7, 8, 11, 12}) {
            Check.refused("inject on a full wire", x, x.inject(dir, code, 9), before);
        }
        Check.due("the other wire has room", x.inject(1 - dir, 8, 9), true);
        x.drop(dir);
        Check.due("room again", x.inject(dir, 8, 10), true);
        Check.message("at the tail", x, dir, 7, 8, 0, 10, -1, -1, -1, -1);
    }

    private static void otherCodes() {
        Check.sentence("Promise 13", "Any other code and any data value are accepted.");
        int[] codes = {Integer.MIN_VALUE, -1, 0, 7, 8, 11, 12, 255, 257, 65537, Integer.MAX_VALUE};
        int[] datas = {Integer.MIN_VALUE, -1, 0, 1, 7, 65536, Integer.MAX_VALUE};
        for (int code : codes) {
            for (int data : datas) {
                for (int dir = 0; dir < 2; dir++) {
                    PppNegotiator x = Scene.fresh();
                    String call = "inject(" + dir + ", " + code + ", " + data + ")";
                    Check.due(call, x.inject(dir, code, data), true);
                    Check.due(call + ": size", x.wireSize(dir), 1);
                    Check.message(call, x, dir, 0, code, 0, data, -1, -1, -1, -1);
                    x.drop(dir);
                    Check.unchanged(call + " beside the wire", x, Check.everything(Scene.fresh()));
                }
            }
        }
    }

    /** It goes to the tail, over cells where a message with options stood before. */
    private static void tail() {
        Check.sentence("Promise 13", "Otherwise the message (code, id 0, data, all options NONE) is"
            + " appended to wire dir and the answer is true.");
        PppNegotiator x = Scene.fresh();
        x.up(0);
        x.open(0);
        Scene.ticks(x, 6);
        x.drop(0);
        Check.due("inject", x.inject(0, 8, 1), true);
        Check.due("size", x.wireSize(0), 3);
        Check.message("head", x, 0, 0, 1, 2, 0, 1500, -1, 65535, 15);
        Check.message("tail", x, 0, 2, 8, 0, 1, -1, -1, -1, -1);
    }

    /** No peer sends it: no peer's items change, in whatever state. */
    private static void noPeer() {
        Check.sentence("Promise 13", "Otherwise the message (code, id 0, data, all options NONE) is"
            + " appended to wire dir and the answer is true.");
        for (int state = 0; state <= 9; state++) {
            PppNegotiator x = Scene.in(state);
            int[] items = Check.items(x);
            Check.due("inject", x.inject(0, PppNegotiator.CODE_CODE_REJ, 1), true);
            Check.due("inject", x.inject(1, PppNegotiator.CODE_CODE_REJ, 1), true);
            Check.same("inject in state " + state + ": the same items", Check.items(x), items);
        }
    }

    public static void main(String[] args) {
        noSuchWire();
        refusedCodes();
        fullWire(0);
        fullWire(1);
        otherCodes();
        tail();
        noPeer();
        Check.end();
    }
}
