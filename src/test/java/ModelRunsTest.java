import java.util.Arrays;
import java.util.List;
import java.util.Set;
import java.util.TreeSet;

/**
 * Long runs of mixed calls on the program and on the model side by side: after each call the
 * answer and all that the getters show must be the same. The runs come from fixed seeds.
 */
public final class ModelRunsTest {
    private static final int RUNS = 4000;
    private static final int CALLS = 512;
    private static final int[] ODD_NUMBERS = {
        Integer.MIN_VALUE, -2, -1, 0, 1, 2, 3, 4, 63, 64, 1500, 65534, 65535, 65536, Integer.MAX_VALUE,
    };

    private static long seed;

    /** All numbers come from the seed, so that a run that fails can be run again. */
    private static int below(int bound) {
        seed = seed * 6364136223846793005L + 1442695040888963407L;
        return (int) ((seed >>> 33) % bound);
    }

    private static int end() {
        return below(60) == 0 ? (below(2) == 0 ? -1 : 2) : below(2);
    }

    private static int number() {
        return below(3) == 0 ? ODD_NUMBERS[below(ODD_NUMBERS.length)] : below(6);
    }

    private static long bit(boolean answer) {
        return answer ? 1 : 0;
    }

    private static void setRange(PppNegotiator x, Model y, String at) {
        int p = end();
        int o = below(40) == 0 ? number() : below(4);
        int lo = number();
        int hi = number();
        Check.due(at + "setRange(" + p + ", " + o + ", " + lo + ", " + hi + ")",
            bit(x.setRange(p, o, lo, hi)), bit(y.setRange(p, o, lo, hi)));
    }

    private static void inject(PppNegotiator x, Model y, String at) {
        int d = end();
        int code = below(6) == 0 ? number() : below(14);
        int data = below(6) == 0 ? number() : below(10);
        Check.due(at + "inject(" + d + ", " + code + ", " + data + ")",
            bit(x.inject(d, code, data)), bit(y.inject(d, code, data)));
    }

    private static void anyCall(PppNegotiator x, Model y, String at) {
        int e = end();
        switch (below(30)) {
            case 0 -> Check.due(at + "open(" + e + ")", bit(x.open(e)), bit(y.open(e)));
            case 1 -> Check.due(at + "up(" + e + ")", bit(x.up(e)), bit(y.up(e)));
            case 2, 3 -> {
                Check.due(at + "up(" + e + ")", bit(x.up(e)), bit(y.up(e)));
                Check.due(at + "open(" + e + ")", bit(x.open(e)), bit(y.open(e)));
            }
            case 4 -> {
                if (below(3) == 0) {
                    Check.due(at + "close(" + e + ")", bit(x.close(e)), bit(y.close(e)));
                }
            }
            case 5 -> {
                if (below(4) == 0) {
                    Check.due(at + "down(" + e + ")", bit(x.down(e)), bit(y.down(e)));
                }
            }
            case 6, 7 -> {
                x.tick();
                y.tick();
            }
            case 8 -> Check.due(at + "drop(" + e + ")", bit(x.drop(e)), bit(y.drop(e)));
            case 9 -> {
                int times = below(4) == 0 ? PppNegotiator.WIRE_CAP : 1;
                for (int i = 0; i < times; i++) {
                    Check.due(at + "duplicate(" + e + ")", bit(x.duplicate(e)), bit(y.duplicate(e)));
                }
            }
            case 10, 11 -> Check.due(at + "rotate(" + e + ")", bit(x.rotate(e)), bit(y.rotate(e)));
            case 12, 13 -> Check.due(at + "echo(" + e + ")", bit(x.echo(e)), bit(y.echo(e)));
            case 14 -> setRange(x, y, at);
            case 15 -> {
                if (below(3) == 0) {
                    inject(x, y, at);
                }
            }
            default -> Check.due(at + "deliver(" + e + ")", x.deliver(e), y.deliver(e));
        }
    }

    /** What is beside the written transitions and must have been met for the runs to mean much. */
    private static final List<String> ALSO = List.of(
        "Open 1", "Open 3", "Open 5", "Open 6", "Open 7", "Open 8", "Open 9",
        "Close 0", "Close 2", "Close 4",
        "RCR+ 4", "RCR+ 5", "RCR- 4", "RCR- 5", "RCA 4", "RCA 5", "RCN 4", "RCN 5",
        "RTA 2", "RTA 3", "RTA 6", "RTA 8", "RXJ+ 2", "RXJ+ 9", "RXR 2", "RXR 8",
        "discarded in 0", "discarded in 1", "request -1", "request 0", "request 1",
        "ack true", "ack false", "nak true", "nak false", "reject true", "reject false",
        "echo reply true", "echo reply false", "echo limit", "adopt a reject",
        "adopt a nak below", "adopt a nak above", "adopt a nak in",
        "magic -1", "magic 0", "magic 1", "rejected", "rejected beside nakked", "too many naks",
        "lost 1", "lost 2", "lost 3", "lost 4", "lost 5", "lost 6", "lost 7", "lost 9", "lost 10");

    public static void main(String[] args) {
        Set<String> met = new TreeSet<>();
        for (int run = 1; run <= RUNS; run++) {
            seed = run;
            int a = below(14) - 1;
            int b = below(8) - 1;
            int c = below(9) - 1;
            int d = below(8) - 1;
            PppNegotiator x = new PppNegotiator(a, b, c, d);
            Model y = new Model(a, b, c, d, met);
            for (int call = 1; call <= CALLS; call++) {
                String at = "run " + run + ", call " + call + ": ";
                anyCall(x, y, at);
                int[] got = Check.everything(x);
                int[] want = y.everything();
                Check.due(at + "all items as the model has them", Arrays.equals(got, want), true);
                if (!Arrays.equals(got, want)) {
                    break; // what follows would only repeat it
                }
            }
        }
        Set<String> missing = Model.written();
        missing.addAll(ALSO);
        missing.remove("TO- 7"); // no run gets there: state 7 is entered with restart full
        missing.removeAll(met);
        for (String thing : missing) {
            Check.due("the runs met '" + thing + "'", 0, 1);
        }
        Check.end();
    }
}
