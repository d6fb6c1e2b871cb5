/** Promise 11: the head goes to the tail, and the others keep their order. */
public final class P11RotateTest {
    private static void wrongInputs() {
        PppNegotiator x = Scene.fresh();
        x.inject(0, 8, 1);
        x.inject(0, 12, 1);
        int[] before = Check.everything(x);
        for (int dir : new int[] {Integer.MIN_VALUE, -1, 1, 2, Integer.MAX_VALUE}) {
            Check.refused("rotate(" + dir + ")", x, x.rotate(dir), before);
        }
    }

    private static void alone() {
        PppNegotiator x = Scene.fresh();
        x.up(0);
        x.open(0);
        int[] before = Check.everything(x);
        Check.due("rotate of one message", x.rotate(0), true);
        Check.unchanged("rotate of one message", x, before);
    }

    /** All the fields go along, on a wire of that size, up to a full one. */
    private static void several(int dir, int size) {
        PppNegotiator x = Scene.fresh();
        x.up(dir);
        x.open(dir);
        for (int i = 1; i < size; i++) {
            x.inject(dir, 20 + i, 30 + i);
        }
        x.inject(1 - dir, 50, 51);
        int[] before = Check.everything(x);
        Check.due("rotate", x.rotate(dir), true);
        Check.due("size", x.wireSize(dir), size);
        for (int i = 1; i < size; i++) {
            Check.message("moved up", x, dir, i - 1, 20 + i, 0, 30 + i, -1, -1, -1, -1);
        }
        Check.message("at the tail", x, dir, size - 1, 1, 1, 0, 1500, -1, 65535, 15);
        for (int i = 1; i < size; i++) {
            x.rotate(dir);
        }
        Check.unchanged("a whole turn", x, before);
    }

    public static void main(String[] args) {
        wrongInputs();
        alone();
        for (int size = 2; size <= 8; size++) {
            several(0, size);
            several(1, size);
        }
        Check.end();
    }
}
