/** Promise 9: the head is lost, and no peer hears of it. */
public final class P09DropTest {
    private static void wrongInputs() {
        PppNegotiator x = Scene.fresh();
        x.inject(0, 8, 1);
        int[] before = Check.everything(x);
        for (int dir : new int[] {Integer.MIN_VALUE, -1, 1, 2, Integer.MAX_VALUE}) {
            Check.refused("drop(" + dir + ")", x, x.drop(dir), before);
        }
    }

    private static void ordinary(int dir) {
        PppNegotiator x = Scene.fresh();
        x.up(1 - dir);
        x.open(dir);
        x.up(dir);
        x.inject(dir, 20, 5);
        x.inject(dir, 21, 6);
        x.inject(1 - dir, 22, 7);
        int other = x.wireSize(1 - dir);
        Check.due("drop", x.drop(dir), true);
        Check.due("left", x.wireSize(dir), 2);
        Check.message("left", x, dir, 0, 20, 0, 5, -1, -1, -1, -1);
        Check.message("left", x, dir, 1, 21, 0, 6, -1, -1, -1, -1);
        Check.due("the other wire", x.wireSize(1 - dir), other);
        Check.peer("the sender", x, dir, PppNegotiator.INFO_STATE, 6, PppNegotiator.INFO_TIMER, 3,
            PppNegotiator.INFO_NEXT_ID, 1);
        Check.peer("the receiver", x, 1 - dir, PppNegotiator.INFO_STATE, 2,
            PppNegotiator.INFO_HIGH_CR, 0, PppNegotiator.INFO_NEXT_ID, 0);
    }

    private static void downToNone() {
        PppNegotiator x = Scene.fresh();
        int[] before = Check.everything(x);
        Scene.fill(x, 1);
        for (int left = 7; left >= 0; left--) {
            Check.due("drop", x.drop(1), true);
            Check.due("left", x.wireSize(1), left);
        }
        Check.refused("drop on the empty wire", x, x.drop(1), before);
    }

    public static void main(String[] args) {
        wrongInputs();
        ordinary(0);
        ordinary(1);
        downToNone();
        Check.end();
    }
}
