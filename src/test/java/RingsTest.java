/** Promises 12 to 15: ring, flux, warm, ofRing. */
public final class RingsTest {
    public static void main(String[] args) {
        numbersAndRanges();
        slips();
        slipsAboveTheCriticalCurrent();
        slipsOnlyForLess();
        slipsAreCountedAsOne();
        warms();
        warmsToTheGreaterOfTwo();
        greatestFlux();
        refuses();
        Due.close();
    }

    private static void numbersAndRanges() {
        Vortexpin x = new Vortexpin();
        int[][] wrong = {{0, 50}, {101, 50}, {1, 49}, {1, 1001}, {-1, -1}, {Integer.MAX_VALUE, 50}, {1, Integer.MIN_VALUE}};
        for (int[] w : wrong) {
            Due.range("ring out of range", () -> x.ring(w[0], w[1]));
        }
        Due.same("ring(1, 50)", x.ring(1, 50), 0);
        Due.same("ring(100, 1000)", x.ring(100, 1000), 1);
        for (int number = 2; number < 6; number++) {
            Due.same("ring(10, 100)", x.ring(10, 100), number);
        }
        Due.full("a seventh ring", () -> x.ring(10, 100));
        for (int[] w : wrong) {
            Due.range("a seventh ring out of range", () -> x.ring(w[0], w[1]));
        }
        for (int what = 0; what < 3; what++) {
            Due.same("ofRing, new", x.ofRing(5, what), 0);
        }
        Due.unknown("no seventh ring stands", () -> x.ofRing(6, 0));
        Due.same("flux of ring 5", x.flux(5, 3000), 2);
        Due.same("ring 4 as before", x.ofRing(4, 1), 0);
    }

    private static void state(Vortexpin x, int ring, int number, int current, int slips) {
        Due.same("whole number", x.ofRing(ring, 0), number);
        Due.same("current", x.ofRing(ring, 1), current);
        Due.same("slips", x.ofRing(ring, 2), slips);
    }

    private static void slips() {
        Vortexpin x = new Vortexpin();
        x.ring(10, 100);
        Due.same("flux(0, 1000)", x.flux(0, 1000), 0);
        state(x, 0, 0, -100, 0);
        Due.same("flux(0, 1009)", x.flux(0, 1009), 0);
        state(x, 0, 0, -100, 0);
        Due.same("flux(0, 1010)", x.flux(0, 1010), 1);
        state(x, 0, 1, -1, 1);
        Due.same("flux(0, 0)", x.flux(0, 0), 0);
        state(x, 0, 1, 100, 1);
        Due.same("flux(0, -9)", x.flux(0, -9), 0);
        state(x, 0, 1, 100, 1);
        Due.same("flux(0, -10)", x.flux(0, -10), -1);
        state(x, 0, 0, 1, 2);
        Due.same("flux(0, 1000000)", x.flux(0, 1000000), 999);
        state(x, 0, 999, -100, 1001);
        Due.same("flux(0, -1000000)", x.flux(0, -1000000), -1998);
        state(x, 0, -999, 100, 2999);
        Vortexpin y = new Vortexpin();
        y.ring(100, 1000);
        Due.same("flux(0, 100099)", y.flux(0, 100099), 0);
        state(y, 0, 0, -1000, 0);
        Due.same("flux(0, 100100)", y.flux(0, 100100), 1);
        state(y, 0, 1, -991, 1);
    }

    /** An inductance, a critical current, the greatest flux that does not slip yet, by its current without its sign. */
    private static void slipsAboveTheCriticalCurrent() {
        int[][] rings = {{1, 1000, 1000}, {1, 600, 600}, {2, 1000, 2001}, {100, 50, 5099}, {100, 1000, 100099}, {10, 50, 509}};
        for (int[] r : rings) {
            for (int sign = -1; sign < 2; sign += 2) {
                Vortexpin x = new Vortexpin();
                x.ring(r[0], r[1]);
                Due.same("at the critical current", x.flux(0, sign * r[2]), 0);
                state(x, 0, 0, -sign * r[1], 0);
                Due.same("above the critical current", x.flux(0, sign * (r[2] + 1)), sign);
                state(x, 0, sign, sign * (1000 - r[2] - 1) / r[0], 1);
            }
        }
    }

    private static void slipsAreCountedAsOne() {
        Vortexpin x = new Vortexpin();
        x.ring(1, 50);
        state(x, 0, 0, 0, 0);
        Due.same("3 up", x.flux(0, 3000), 3);
        Due.same("5 down", x.flux(0, -2000), -5);
        Due.same("1 up", x.flux(0, -1000), 1);
        Due.same("none", x.flux(0, -1000), 0);
        state(x, 0, -1, 0, 9);
    }

    private static void slipsOnlyForLess() {
        Vortexpin x = new Vortexpin();
        x.ring(1, 50);
        Due.same("flux(0, 500)", x.flux(0, 500), 0);
        state(x, 0, 0, -500, 0);
        Due.same("flux(0, 501)", x.flux(0, 501), 1);
        state(x, 0, 1, 499, 1);
        Due.same("flux(0, 500) again", x.flux(0, 500), 0);
        state(x, 0, 1, 500, 1);
        Due.same("flux(0, 499)", x.flux(0, 499), -1);
        state(x, 0, 0, -499, 2);
        Due.same("flux(0, 1000000)", x.flux(0, 1000000), 1000);
        state(x, 0, 1000, 0, 1002);
        Due.same("flux(0, -700)", x.flux(0, -700), -1001);
        state(x, 0, -1, -300, 2003);
        Due.same("flux(0, -1000000)", x.flux(0, -1000000), -999);
        state(x, 0, -1000, 0, 3002);
        x.ring(7, 50);
        Due.same("flux(1, 502): the currents are rounded", x.flux(1, 502), 0);
        state(x, 1, 0, -71, 0);
        Due.same("flux(1, 504): 72 and 70", x.flux(1, 504), 1);
        state(x, 1, 1, 70, 1);
    }

    private static void warms() {
        Vortexpin x = new Vortexpin();
        x.ring(100, 1000);
        int[][] nearest = {{499, 0}, {500, 1}, {501, 1}, {1499, 1}, {1500, 2}, {-499, 0}, {-500, 0}, {-501, -1},
            {-1499, -1}, {-1500, -1}, {-1501, -2}, {0, 0}, {1000, 1}, {-1000, -1}, {9999, 10}, {-9999, -10}};
        for (int[] n : nearest) {
            Due.same("no slip", x.flux(0, n[0]), 0);
            Due.same("warm at " + n[0], x.warm(0), n[1]);
            state(x, 0, n[1], (1000 * n[1] - n[0]) / 100, 0);
        }
        x.ring(1, 50);
        x.flux(1, 5500);
        Due.same("warm(1)", x.warm(1), 6);
        state(x, 1, 6, 500, 5);
        Due.same("the other one is not warmed", x.ofRing(0, 0), -10);
        x.ring(10, 100);
        x.flux(2, 1000000);
        Due.same("warm(2)", x.warm(2), 1000);
        Due.same("slips without those by warming", x.ofRing(2, 2), 999);
        Due.same("flux from there", x.flux(2, 1000000 - 1010), -1);
    }

    private static void warmsToTheGreaterOfTwo() {
        for (int number = -3; number <= 3; number++) {
            Vortexpin x = new Vortexpin();
            x.ring(100, 1000);
            x.flux(0, 1000 * number - 501);
            Due.same("1 below the half ahead of " + number, x.warm(0), number - 1);
            x.flux(0, 1000 * number - 500);
            Due.same("at the half ahead of " + number, x.warm(0), number);
            x.flux(0, 1000 * number + 499);
            Due.same("1 below the half behind " + number, x.warm(0), number);
            x.flux(0, 1000 * number + 500);
            Due.same("at the half behind " + number, x.warm(0), number + 1);
            Due.same("warmed again, the same", x.warm(0), number + 1);
            Due.same("no slips", x.ofRing(0, 2), 0);
        }
    }

    private static void greatestFlux() {
        int[] most = {1000000, -1000000};
        for (int flux : most) {
            Vortexpin x = new Vortexpin();
            x.ring(1, 50);
            x.ring(100, 1000);
            x.ring(100, 1000);
            Due.same("1000 slips", x.flux(0, flux), flux / 1000);
            state(x, 0, flux / 1000, 0, 1000);
            Due.same("900 slips", x.flux(1, flux), flux / 1000 - flux / 10000);
            state(x, 1, flux / 1000 - flux / 10000, -flux / 1000, 900);
            x.warm(1);
            Due.same("warm", x.ofRing(1, 0), flux / 1000);
            state(x, 1, flux / 1000, 0, 900);
            Due.same("a ring beside it as before", x.ofRing(2, 1), 0);
        }
    }

    private static void refuses() {
        Vortexpin x = new Vortexpin();
        x.ring(10, 100);
        x.flux(0, 700);
        int[] unknown = {-1, 1, 6, Integer.MAX_VALUE, Integer.MIN_VALUE};
        for (int w : unknown) {
            Due.unknown("flux of none", () -> x.flux(w, 0));
            Due.unknown("flux of none, out of range", () -> x.flux(w, 1000001));
            Due.unknown("warm of none", () -> x.warm(w));
            Due.unknown("ofRing of none", () -> x.ofRing(w, 0));
            Due.unknown("ofRing of none, out of range", () -> x.ofRing(w, 3));
        }
        int[] wrong = {-1000001, 1000001, Integer.MAX_VALUE, Integer.MIN_VALUE};
        for (int w : wrong) {
            Due.range("flux out of range", () -> x.flux(0, w));
        }
        int[] asked = {-1, 3, Integer.MAX_VALUE, Integer.MIN_VALUE};
        for (int w : asked) {
            Due.range("ofRing out of range", () -> x.ofRing(0, w));
        }
        state(x, 0, 0, -70, 0);
    }
}
