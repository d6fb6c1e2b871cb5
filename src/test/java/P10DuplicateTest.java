/** Promise 10: an exact copy of the head at the tail, if there is room. */
public final class P10DuplicateTest {
    private static void wrongInputs() {
        PppNegotiator x = Scene.fresh();
        x.inject(0, 8, 1);
        int[] before = Check.everything(x);
        for (int dir : new int[] {Integer.MIN_VALUE, -1, 1, 2, Integer.MAX_VALUE}) {
            Check.refused("duplicate(" + dir + ")", x, x.duplicate(dir), before);
        }
    }

    private static void exactCopy(int dir) {
        PppNegotiator x = Scene.fresh();
        x.setRange(dir, PppNegotiator.OPT_AUTH, 7, 8);
        x.up(dir);
        x.open(dir);
        x.inject(dir, 20, -5);
        Check.due("duplicate", x.duplicate(dir), true);
        Check.due("size", x.wireSize(dir), 3);
        Check.message("head", x, dir, 0, 1, 1, 0, 1500, 8, 65535, 15);
        Check.message("between", x, dir, 1, 20, 0, -5, -1, -1, -1, -1);
        Check.message("copy", x, dir, 2, 1, 1, 0, 1500, 8, 65535, 15);
        Check.due("the other wire", x.wireSize(1 - dir), 0);
        Check.peer("the sender", x, dir, PppNegotiator.INFO_NEXT_ID, 1, PppNegotiator.INFO_RESTART, 9);
        x.rotate(dir);
        x.duplicate(dir);
        Check.message("copy with data", x, dir, 3, 20, 0, -5, -1, -1, -1, -1);
    }

    private static void upToFull(int dir) {
        PppNegotiator x = Scene.fresh();
        x.inject(dir, 20, 1);
        for (int size = 2; size <= 8; size++) {
            Check.due("duplicate", x.duplicate(dir), true);
            Check.due("size", x.wireSize(dir), size);
        }
        int[] before = Check.everything(x);
        Check.refused("duplicate on a full wire", x, x.duplicate(dir), before);
    }

    public static void main(String[] args) {
        wrongInputs();
        exactCopy(0);
        exactCopy(1);
        upToFull(0);
        upToFull(1);
        Check.end();
    }
}
