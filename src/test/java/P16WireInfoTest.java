/** Promise 16: wireSize and wireInfo. */
public final class P16WireInfoTest {
    private static final int[] NO_WIRE = {Integer.MIN_VALUE, -1, 2, Integer.MAX_VALUE};

    private static void wrongInputs() {
        PppNegotiator x = Scene.fresh();
        x.inject(0, 20, 30);
        x.inject(0, 21, 31);
        x.inject(1, 22, 32);
        int[] before = Check.everything(x);
        for (int dir : NO_WIRE) {
            Check.due("wireSize(" + dir + ")", x.wireSize(dir), -1);
            Check.due("wireInfo(" + dir + ", 0, 0)", x.wireInfo(dir, 0, 0), -1);
        }
        for (int pos : new int[] {Integer.MIN_VALUE, -1, 2, 7, 8, Integer.MAX_VALUE}) {
            Check.due("wireInfo(0, " + pos + ", 0)", x.wireInfo(0, pos, 0), -1);
            Check.due("wireInfo(1, " + pos + ", 0)", x.wireInfo(1, pos, 0), -1);
        }
        Check.due("wireInfo(1, 1, 0)", x.wireInfo(1, 1, 0), -1);
        for (int field : new int[] {Integer.MIN_VALUE, -1, 7, Integer.MAX_VALUE}) {
            Check.due("wireInfo(0, 0, " + field + ")", x.wireInfo(0, 0, field), -1);
            Check.due("wireInfo(0, 1, " + field + ")", x.wireInfo(0, 1, field), -1);
        }
        Check.unchanged("wireSize and wireInfo", x, before);
    }

    private static void sizes(int dir) {
        PppNegotiator x = Scene.fresh();
        for (int size = 1; size <= 8; size++) {
            x.inject(dir, 20, size);
            Check.due("wireSize", x.wireSize(dir), size);
            Check.due("the other wire", x.wireSize(1 - dir), 0);
            Check.due("last", x.wireInfo(dir, size - 1, PppNegotiator.W_DATA), size);
            Check.due("past the last", x.wireInfo(dir, size, PppNegotiator.W_DATA), -1);
        }
        x.drop(dir);
        Check.due("last after a drop", x.wireInfo(dir, 6, PppNegotiator.W_DATA), 8);
        Check.due("past the last after a drop", x.wireInfo(dir, 7, PppNegotiator.W_DATA), -1);
    }

    private static void fields() {
        PppNegotiator x = Scene.fresh();
        for (int o = 0; o < 4; o++) {
            x.setRange(1, o, 0, 100 + o);
        }
        x.up(1);
        x.inject(0, 44, 0);
        x.deliver(0);
        x.open(1);
        Check.due("W_CODE", x.wireInfo(1, 0, PppNegotiator.W_CODE), 7);
        Check.due("W_ID", x.wireInfo(1, 0, PppNegotiator.W_ID), 1);
        Check.due("W_DATA", x.wireInfo(1, 0, PppNegotiator.W_DATA), 44);
        Check.due("W_OPT", x.wireInfo(1, 0, PppNegotiator.W_OPT), -1);
        Check.due("W_CODE", x.wireInfo(1, 1, PppNegotiator.W_CODE), 1);
        Check.due("W_ID", x.wireInfo(1, 1, PppNegotiator.W_ID), 2);
        Check.due("W_DATA", x.wireInfo(1, 1, PppNegotiator.W_DATA), 0);
        for (int o = 0; o < 4; o++) {
            Check.due("W_OPT + " + o, x.wireInfo(1, 1, PppNegotiator.W_OPT + o), 100 + o);
        }
    }

    public static void main(String[] args) {
        wrongInputs();
        sizes(0);
        sizes(1);
        fields();
        Check.end();
    }
}
