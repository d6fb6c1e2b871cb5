/** Promise 13: which codes may be fed in, and what is then on the wire. */
public final class P13InjectTest {
    private static void wrongInputs() {
        PppNegotiator x = Scene.in(9);
        int[] before = Check.everything(x);
        for (int dir : new int[] {Integer.MIN_VALUE, -1, 2, Integer.MAX_VALUE}) {
            Check.refused("inject(" + dir + ", 8, 0)", x, x.inject(dir, 8, 0), before);
        }
        for (int code : new int[] {1, 2, 3, 4, 5, 6, 9, 10}) {
            for (int dir = 0; dir < 2; dir++) {
                Check.refused("inject(" + dir + ", " + code + ", 0)", x, x.inject(dir, code, 0), before);
            }
        }
    }

    private static void otherCodes() {
        int[] codes = {Integer.MIN_VALUE, -1, 0, 7, 8, 11, 12, 255, 65536, Integer.MAX_VALUE};
        int[] datas = {Integer.MIN_VALUE, -1, 0, 1, 7, 65536, Integer.MAX_VALUE};
        for (int code : codes) {
            for (int data : datas) {
                for (int dir = 0; dir < 2; dir++) {
                    PppNegotiator x = Scene.fresh();
                    String call = "inject(" + dir + ", " + code + ", " + data + ")";
                    Check.due(call, x.inject(dir, code, data), true);
                    Check.due(call + ": size", x.wireSize(dir), 1);
                    Check.message(call, x, dir, 0, code, 0, data, -1, -1, -1, -1);
                    x.drop(dir);
                    Check.unchanged(call + " beside the wire", x, Check.everything(Scene.fresh()));
                }
            }
        }
    }

    /** It goes to the tail, over cells where a message with options stood before. */
    private static void tail() {
        PppNegotiator x = Scene.fresh();
        x.up(0);
        x.open(0);
        Scene.ticks(x, 6);
        x.drop(0);
        x.inject(0, 8, 1);
        Check.due("size", x.wireSize(0), 3);
        Check.message("head", x, 0, 0, 1, 2, 0, 1500, -1, 65535, 15);
        Check.message("tail", x, 0, 2, 8, 0, 1, -1, -1, -1, -1);
    }

    private static void full(int dir) {
        PppNegotiator x = Scene.fresh();
        for (int i = 0; i < 8; i++) {
            Check.due("inject", x.inject(dir, 8, i), true);
        }
        int[] before = Check.everything(x);
        Check.refused("inject on a full wire", x, x.inject(dir, 8, 9), before);
        Check.due("the other wire has room", x.inject(1 - dir, 8, 9), true);
    }

    public static void main(String[] args) {
        wrongInputs();
        otherCodes();
        tail();
        full(0);
        full(1);
        Check.end();
    }
}
