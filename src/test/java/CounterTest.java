/** Promises 22 to 24: margins, pulse, bit. */
public final class CounterTest {
    public static void main(String[] args) {
        margins();
        races();
        refuses();
        turns();
        bits();
        Due.close();
    }

    private static void margins() {
        Vortexpin x = new Vortexpin();
        Due.same("pulse(1000, 299)", x.pulse(1000, 299), 0);
        Due.same("pulse(1000, 300)", x.pulse(1000, 300), 1);
        Due.same("pulse(1000, 700)", x.pulse(1000, 700), 2);
        Due.same("pulse(1000, 701)", x.pulse(1000, 701), 4);
        Due.same("pulse(1000, 0)", x.pulse(1000, 0), 4);
        Due.same("pulse(1000, 1000)", x.pulse(1000, 1000), 6);
        x.margins(10, 10);
        Due.same("pulse(1000, 9)", x.pulse(1000, 9), 6);
        Due.same("pulse(1000, 10)", x.pulse(1000, 10), 7);
        Due.same("pulse(1000, 11)", x.pulse(1000, 11), 9);
        x.margins(0, 1000);
        Due.same("pulse(1000, 0), all in", x.pulse(1000, 0), 10);
        Due.same("pulse(1000, 1000), all in", x.pulse(1000, 1000), 11);
        x.margins(1000, 1000);
        Due.same("pulse(1000, 999)", x.pulse(1000, 999), 11);
        Due.same("pulse(1000, 1000)", x.pulse(1000, 1000), 12);
        x.margins(0, 0);
        Due.same("pulse(1000, 0)", x.pulse(1000, 0), 13);
        Due.same("pulse(1000, 1)", x.pulse(1000, 1), 15);
    }

    private static void races() {
        Vortexpin x = new Vortexpin();
        Due.same("pulse(4, 500)", x.pulse(4, 500), 0);
        Due.same("pulse(5, 500)", x.pulse(5, 500), 1);
        Due.same("pulse(1, 500)", x.pulse(1, 500), 1);
        Due.same("pulse(4, 1000)", x.pulse(4, 1000), 1);
        Due.same("5 behind the lost one", x.pulse(5, 500), 2);
        Due.same("pulse(5, 1000)", x.pulse(5, 1000), 4);
        Due.same("pulse(5, 0)", x.pulse(5, 0), 4);
    }

    private static void refuses() {
        Vortexpin x = new Vortexpin();
        int[][] margins = {{-1, 5}, {1001, 1001}, {5, 4}, {5, 1001}, {0, -1}, {Integer.MIN_VALUE, 0},
            {0, Integer.MAX_VALUE}, {Integer.MAX_VALUE, Integer.MAX_VALUE}, {1000, 999}};
        for (int[] w : margins) {
            Due.range("margins out of range", () -> x.margins(w[0], w[1]));
        }
        int[][] pulses = {{0, 500}, {1001, 500}, {5, -1}, {5, 1001}, {-1, -1}, {Integer.MIN_VALUE, 500}, {5, Integer.MAX_VALUE}};
        for (int[] w : pulses) {
            Due.range("pulse out of range", () -> x.pulse(w[0], w[1]));
        }
        Due.same("nothing was counted", x.pulse(5, 299), 0);
        Due.same("the margins stand", x.pulse(5, 701), 2);
        int[] unknown = {-1, 16, 32, Integer.MAX_VALUE, Integer.MIN_VALUE};
        for (int w : unknown) {
            Due.unknown("bit of none", () -> x.bit(w));
        }
    }

    /** 65536 pulses are far more than 512 calls; no bit but the low ones can be reached within the promise. */
    private static void turns() {
        Vortexpin x = new Vortexpin();
        int count = 0;
        for (int call = 0; call < 500; call++) {
            count += 2;
            Due.same("pulse(5, 1000)", x.pulse(5, 1000), count);
        }
        for (int bit = 0; bit < 12; bit++) {
            Due.same("bit " + bit + " of 1000", x.bit(bit), 1000 / (1 << bit) % 2);
        }
    }

    private static void bits() {
        Vortexpin x = new Vortexpin();
        for (int count = 1; count <= 90; count++) {
            x.pulse(5, 500);
            for (int bit = 0; bit < 5; bit++) {
                if (bit == count % 5) {
                    Due.same("bit " + bit + " of " + count, x.bit(bit), count / (1 << bit) % 2);
                }
            }
        }
        for (int bit = 7; bit < 16; bit++) {
            Due.same("bit " + bit + " of 90", x.bit(bit), 0);
        }
        Due.same("bit 6 of 90", x.bit(6), 1);
        Due.same("bit 5 of 90", x.bit(5), 0);
    }
}
