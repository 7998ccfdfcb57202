/**
 * A call that throws changes nothing: of two objects that get the same calls, one gets wrong ones between
 * them too, and both must answer alike. What is chosen comes of a fixed row of numbers.
 */
public final class TwinTest {
    private static final int[] ODD = {Integer.MIN_VALUE, -1000001, -1001, -101, -10, -1, 61, 201, 301, 501, 1001, 1000001, Integer.MAX_VALUE};

    private static long seed;

    public static void main(String[] args) {
        for (int run = 0; run < 200; run++) {
            seed = run;
            twins(run);
        }
        Due.close();
    }

    private static void twins(int run) {
        Vortexpin plain = new Vortexpin();
        Vortexpin disturbed = new Vortexpin();
        for (int call = 0; call < 160; call++) {
            for (int odd = 0; odd < 2; odd++) {
                disturb(disturbed, next(24), ODD[next(ODD.length)]);
            }
            int what = next(CALLS);
            int[] a = {next(1 << 20), next(1 << 20), next(1 << 20)};
            Due.sameText("run " + run + ", call " + call, answer(disturbed, what, a), answer(plain, what, a));
        }
    }

    private static int next(int bound) {
        seed = seed * 6364136223846793005L + 1442695040888963407L;
        return (int) ((seed >>> 33) % bound);
    }

    private static String answer(Vortexpin x, int what, int[] a) {
        try {
            return what < 14 ? ofMatter(x, what, a) : ofCoilAndOn(x, what, a);
        } catch (IllegalArgumentException | IllegalStateException | IndexOutOfBoundsException e) {
            return e.getClass().getName();
        }
    }

    private static final int CALLS = 27;

    private static String ofMatter(Vortexpin x, int what, int[] a) {
        switch (what) {
            case 0: return "" + x.sample(1 + a[0] % 200, 1 + a[1] % 1000, 1 + a[2] % 1000);
            case 1: return "" + x.set(a[0] % 8, a[1] % 301, a[2] % 2001 - 1000);
            case 2: return "" + x.deep(a[0] % 8);
            case 3: return "" + x.pin(a[0] % 48, a[1] % 51);
            case 4: x.drive(a[0] % 19 - 9, a[1] % 31); return "told";
            case 5: return "" + x.enter(a[0] % 200 - 20);
            case 6: return "" + x.step();
            case 7: return "" + x.avalanche();
            case 8: return "" + x.whirlAt(a[0] % 20);
            case 9: return "" + x.energy(a[0] % 20);
            case 10: return "" + x.ring(1 + a[0] % 100, 50 + a[1] % 951);
            case 11: return "" + x.flux(a[0] % 6, a[1] % 20001 - 10000);
            case 12: return "" + x.warm(a[0] % 6);
            default: return "" + x.ofRing(a[0] % 6, a[1] % 3);
        }
    }

    private static String ofCoilAndOn(Vortexpin x, int what, int[] a) {
        switch (what) {
            case 14: return a[1] % 4 == 0 ? "" + x.current(a[0] % 1001) : "none";
            case 15: return "" + x.heat(a[0] % 12, 1 + a[1] % 500);
            case 16: return "" + x.pass(1 + a[0] % 3);
            case 17: return "" + x.warmth(a[0] % 12);
            case 18: return "" + x.ofCoil(a[0] % 6);
            case 19: return "" + x.share();
            case 20: x.margins(a[0] % 500, 500 + a[1] % 501); return "told";
            case 21: return "" + x.pulse(1 + a[0] % 20, a[1] % 1001);
            case 22: return "" + x.bit(a[0] % 16);
            case 23: return "" + x.point(a[0] % 3, a[1] % 3 - 1, a[2] % 9);
            case 24: return "" + x.claim(1 + a[0] % 3, a[1] % 3, a[2] % 12);
            case 25: return "" + x.repeats(a[0] % 8, a[1] % 7, a[2] % 3 > 0);
            default: return "" + x.judge(a[0] % 8, a[1] % 5);
        }
    }

    /** A call that must throw: one number of it is beyond all that it may be. */
    private static void disturb(Vortexpin x, int what, int odd) {
        boolean low = odd < 0;
        switch (what) {
            case 0: Due.range("sample", () -> x.sample(low || odd > 200 ? odd : 0, 5, 5)); break;
            case 1: Due.unknown("set", () -> x.set(odd, 5, 5)); break;
            case 2: Due.unknown("deep", () -> x.deep(odd)); break;
            case 3: Due.unknown("pin", () -> x.pin(odd, 5)); break;
            case 4: Due.range("pin", () -> x.pin(7, odd)); break;
            case 5: Due.range("drive", () -> x.drive(low ? Math.min(odd, -10) : odd, 5)); break;
            case 6: Due.range("drive", () -> x.drive(5, odd)); break;
            case 7: Due.range("enter", () -> x.enter(low ? Math.min(odd, -101) : Math.max(odd, 1001))); break;
            case 8: Due.unknown("whirlAt, energy", () -> x.energy(odd)); break;
            case 9: Due.range("ring", () -> x.ring(5, low ? odd : Math.max(odd, 1001))); break;
            case 10: Due.unknown("flux", () -> x.flux(odd, 5)); break;
            case 11: Due.unknown("warm", () -> x.warm(odd)); break;
            case 12: Due.unknown("ofRing", () -> x.ofRing(odd, 0)); break;
            case 13: Due.range("current", () -> x.current(low ? odd : Math.max(odd, 1001))); break;
            case 14: Due.range("heat", () -> x.heat(7, low ? odd : Math.max(odd, 501))); break;
            case 15: Due.range("pass", () -> x.pass(odd)); break;
            case 16: Due.range("margins", () -> x.margins(low ? odd : Math.max(odd, 1001), 7)); break;
            case 17: Due.range("pulse", () -> x.pulse(low ? odd : Math.max(odd, 1001), 500)); break;
            case 18: Due.range("pulse", () -> x.pulse(500, low ? odd : Math.max(odd, 1001))); break;
            case 19: Due.range("point", () -> x.point(low ? odd : Math.max(odd, 301), 0, 0)); break;
            case 20: Due.unknown("claim", () -> x.claim(5, odd, odd)); break;
            case 21: Due.unknown("repeats", () -> x.repeats(odd, 0, true)); break;
            case 22: Due.unknown("judge", () -> x.judge(odd, 0)); break;
            default: Due.unknown("bit", () -> x.bit(odd)); break;
        }
    }
}
