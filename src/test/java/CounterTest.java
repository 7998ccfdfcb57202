/** Promises 22 to 24: margins, pulse, bit. */
public final class CounterTest {
    public static void main(String[] args) {
        margins();
        marginsOfOneWidth();
        races();
        racesAtFive();
        refuses();
        fiveHundredPulses();
        turnsAt65536();
        bits();
        Due.close();
    }

    private static void margins() {
        Vortexpin x = new Vortexpin();
        Due.same("pulse(1000, 299)", x.pulse(1000, 299), 0);
        Due.same("pulse(1000, 300)", x.pulse(1000, 300), 1);
        Due.same("pulse(1000, 700)", x.pulse(1000, 700), 2);
        Due.same("pulse(1000, 701)", x.pulse(1000, 701), 4);
        Due.same("pulse(1000, 0)", x.pulse(1000, 0), 4);
        Due.same("pulse(1000, 1000)", x.pulse(1000, 1000), 6);
        x.margins(10, 10);
        Due.same("pulse(1000, 9)", x.pulse(1000, 9), 6);
        Due.same("pulse(1000, 10)", x.pulse(1000, 10), 7);
        Due.same("pulse(1000, 11)", x.pulse(1000, 11), 9);
        x.margins(0, 1000);
        Due.same("pulse(1000, 0), all in", x.pulse(1000, 0), 10);
        Due.same("pulse(1000, 1000), all in", x.pulse(1000, 1000), 11);
        x.margins(1000, 1000);
        Due.same("pulse(1000, 999)", x.pulse(1000, 999), 11);
        Due.same("pulse(1000, 1000)", x.pulse(1000, 1000), 12);
        x.margins(0, 0);
        Due.same("pulse(1000, 0)", x.pulse(1000, 0), 13);
        Due.same("pulse(1000, 1)", x.pulse(1000, 1), 15);
    }

    /** Margins side by side, or one and the same: below, at, between, at, above. */
    private static void marginsOfOneWidth() {
        int[][] margins = {{300, 700}, {500, 501}, {500, 500}, {1, 999}, {0, 999}, {1, 1000}, {0, 1000}, {0, 0}, {1000, 1000}};
        for (int[] m : margins) {
            for (int bias = 0; bias <= 1000; bias++) {
                if (bias > 2 && bias < 998 && Math.abs(bias - m[0]) > 1 && Math.abs(bias - m[1]) > 1) {
                    continue;
                }
                Vortexpin x = new Vortexpin();
                x.margins(m[0], m[1]);
                int due = bias < m[0] ? 0 : bias > m[1] ? 2 : 1;
                Due.same("margins " + m[0] + ", " + m[1] + ", bias " + bias, x.pulse(5, bias), due);
            }
        }
    }

    private static void racesAtFive() {
        int[] biases = {0, 299, 300, 500, 700, 701, 1000};
        int[] counted = {0, 0, 1, 1, 1, 2, 2};
        for (int k = 0; k < biases.length; k++) {
            Vortexpin x = new Vortexpin();
            for (int behind = 1; behind < 5; behind++) {
                Due.same("lost by a race at bias " + biases[k], x.pulse(behind, biases[k]), 0);
            }
            Due.same("5 behind the lost one at bias " + biases[k], x.pulse(5, biases[k]), counted[k]);
            Due.same("4 behind the counted one at bias " + biases[k], x.pulse(4, biases[k]), counted[k]);
            Due.same("1000 behind at bias " + biases[k], x.pulse(1000, biases[k]), 2 * counted[k]);
        }
    }

    private static void races() {
        Vortexpin x = new Vortexpin();
        Due.same("pulse(4, 500)", x.pulse(4, 500), 0);
        Due.same("pulse(5, 500)", x.pulse(5, 500), 1);
        Due.same("pulse(1, 500)", x.pulse(1, 500), 1);
        Due.same("pulse(4, 1000)", x.pulse(4, 1000), 1);
        Due.same("5 behind the lost one", x.pulse(5, 500), 2);
        Due.same("pulse(5, 1000)", x.pulse(5, 1000), 4);
        Due.same("pulse(5, 0)", x.pulse(5, 0), 4);
    }

    private static void refuses() {
        Vortexpin x = new Vortexpin();
        int[][] margins = {{-1, 5}, {1001, 1001}, {5, 4}, {5, 1001}, {0, -1}, {Integer.MIN_VALUE, 0},
            {0, Integer.MAX_VALUE}, {Integer.MAX_VALUE, Integer.MAX_VALUE}, {1000, 999}};
        for (int[] w : margins) {
            Due.range("margins out of range", () -> x.margins(w[0], w[1]));
        }
        int[][] pulses = {{0, 500}, {1001, 500}, {5, -1}, {5, 1001}, {-1, -1}, {Integer.MIN_VALUE, 500}, {5, Integer.MAX_VALUE}};
        for (int[] w : pulses) {
            Due.range("pulse out of range", () -> x.pulse(w[0], w[1]));
        }
        Due.same("nothing was counted", x.pulse(5, 299), 0);
        Due.same("the margins stand", x.pulse(5, 701), 2);
        int[] unknown = {-1, 16, 32, Integer.MAX_VALUE, Integer.MIN_VALUE};
        for (int w : unknown) {
            Due.unknown("bit of none", () -> x.bit(w));
        }
    }

    /** As far as 512 calls come. */
    private static void fiveHundredPulses() {
        Vortexpin x = new Vortexpin();
        int count = 0;
        for (int call = 0; call < 500; call++) {
            count += 2;
            Due.same("pulse(5, 1000)", x.pulse(5, 1000), count);
        }
        for (int bit = 0; bit < 12; bit++) {
            Due.same("bit " + bit + " of 1000", x.bit(bit), 1000 / (1 << bit) % 2);
        }
    }

    /**
     * The document leaves free what an object answers behind its 512th call, and no fewer calls come to the turn:
     * this sees to it that the program counts on as it is told, though nobody may ask for it.
     */
    private static void turnsAt65536() {
        Vortexpin x = new Vortexpin();
        for (int call = 0; call < 32767; call++) {
            x.pulse(5, 1000);
        }
        Due.same("1 ahead of the turn", x.pulse(5, 500), 65535);
        for (int bit = 0; bit < 16; bit++) {
            Due.same("bit " + bit + " of 65535", x.bit(bit), 1);
        }
        Due.same("lost ahead of the turn", x.pulse(4, 500), 65535);
        Due.same("2 more, behind the turn", x.pulse(5, 1000), 1);
        for (int bit = 0; bit < 16; bit++) {
            Due.same("bit " + bit + " of 1", x.bit(bit), bit == 0 ? 1 : 0);
        }
        Vortexpin even = new Vortexpin();
        for (int call = 0; call < 32767; call++) {
            even.pulse(5, 1000);
        }
        Due.same("2 more, to the turn itself", even.pulse(5, 1000), 0);
    }

    private static void bits() {
        Vortexpin x = new Vortexpin();
        for (int count = 1; count <= 90; count++) {
            x.pulse(5, 500);
            for (int bit = 0; bit < 5; bit++) {
                if (bit == count % 5) {
                    Due.same("bit " + bit + " of " + count, x.bit(bit), count / (1 << bit) % 2);
                }
            }
        }
        for (int bit = 7; bit < 16; bit++) {
            Due.same("bit " + bit + " of 90", x.bit(bit), 0);
        }
        Due.same("bit 6 of 90", x.bit(6), 1);
        Due.same("bit 5 of 90", x.bit(5), 0);
    }
}
