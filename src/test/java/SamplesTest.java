/** Promises 2 to 4: sample, set, deep. */
public final class SamplesTest {
    public static void main(String[] args) {
        numbersAndRanges();
        kindTwo();
        kindOne();
        boundsAreRounded();
        leastAndGreatestSample();
        setRefuses();
        deep();
        deepAtTheCriticalTemperature();
        Due.close();
    }

    private static void numbersAndRanges() {
        Vortexpin x = new Vortexpin();
        int[][] wrong = {{0, 1, 1}, {201, 1, 1}, {1, 0, 1}, {1, 1001, 1}, {1, 1, 0}, {1, 1, 1001}, {-5, -5, -5},
            {Integer.MIN_VALUE, 1, 1}, {1, Integer.MAX_VALUE, 1}, {1, 1, Integer.MIN_VALUE}};
        for (int[] w : wrong) {
            Due.range("sample out of range", () -> x.sample(w[0], w[1], w[2]));
        }
        Due.same("sample(1, 1, 1)", x.sample(1, 1, 1), 0);
        Due.same("sample(200, 1000, 1000)", x.sample(200, 1000, 1000), 1);
        for (int number = 2; number < 8; number++) {
            Due.same("sample(9, 9, 9)", x.sample(9, 9, 9), number);
        }
        Due.full("a ninth sample", () -> x.sample(9, 9, 9));
        for (int[] w : wrong) {
            Due.range("a ninth sample out of range", () -> x.sample(w[0], w[1], w[2]));
        }
        Due.same("the eighth sample stands", x.set(7, 0, 8), Vortexpin.MEISSNER);
        Due.unknown("no ninth sample stands", () -> x.set(8, 0, 0));
    }

    private static void kindTwo() {
        Vortexpin x = new Vortexpin();
        x.sample(100, 50, 200);
        x.sample(100, 50, 51);
        Due.same("set(0, 0, 49)", x.set(0, 0, 49), Vortexpin.MEISSNER);
        Due.same("set(0, 0, -49)", x.set(0, 0, -49), Vortexpin.MEISSNER);
        Due.same("set(0, 0, 50)", x.set(0, 0, 50), Vortexpin.MIXED);
        Due.same("set(0, 0, -50)", x.set(0, 0, -50), Vortexpin.MIXED);
        Due.same("set(0, 0, 199)", x.set(0, 0, 199), Vortexpin.MIXED);
        Due.same("set(0, 0, 200)", x.set(0, 0, 200), Vortexpin.NORMAL);
        Due.same("set(0, 0, -200)", x.set(0, 0, -200), Vortexpin.NORMAL);
        Due.same("set(0, 0, -1000)", x.set(0, 0, -1000), Vortexpin.NORMAL);
        Due.same("set(0, 50, 36)", x.set(0, 50, 36), Vortexpin.MEISSNER);
        Due.same("set(0, 50, 37)", x.set(0, 50, 37), Vortexpin.MIXED);
        Due.same("set(0, 50, -149)", x.set(0, 50, -149), Vortexpin.MIXED);
        Due.same("set(0, 50, -150)", x.set(0, 50, -150), Vortexpin.NORMAL);
        Due.same("set(0, 99, 0)", x.set(0, 99, 0), Vortexpin.MIXED);
        Due.same("set(0, 100, 0)", x.set(0, 100, 0), Vortexpin.NORMAL);
        Due.same("set(0, 101, 0)", x.set(0, 101, 0), Vortexpin.NORMAL);
        Due.same("set(0, 300, 0)", x.set(0, 300, 0), Vortexpin.NORMAL);
        Due.same("set(1, 0, 49)", x.set(1, 0, 49), Vortexpin.MEISSNER);
        Due.same("set(1, 0, 50)", x.set(1, 0, 50), Vortexpin.MIXED);
        Due.same("set(1, 0, 51)", x.set(1, 0, 51), Vortexpin.NORMAL);
    }

    private static void kindOne() {
        Vortexpin x = new Vortexpin();
        x.sample(90, 60, 60);
        x.sample(90, 60, 30);
        for (int sample = 0; sample < 2; sample++) {
            Due.same("kind ONE below", x.set(sample, 0, 59), Vortexpin.MEISSNER);
            Due.same("kind ONE below 0", x.set(sample, 0, -59), Vortexpin.MEISSNER);
            Due.same("kind ONE at the bound", x.set(sample, 0, 60), Vortexpin.NORMAL);
            Due.same("kind ONE at the bound below 0", x.set(sample, 0, -60), Vortexpin.NORMAL);
            Due.same("kind ONE above", x.set(sample, 0, 1000), Vortexpin.NORMAL);
            Due.same("kind ONE warmer, below", x.set(sample, 30, 52), Vortexpin.MEISSNER);
            Due.same("kind ONE warmer, at the bound", x.set(sample, 30, 53), Vortexpin.NORMAL);
            Due.same("kind ONE just below its temperature", x.set(sample, 89, 0), Vortexpin.MEISSNER);
            Due.same("kind ONE at its temperature", x.set(sample, 90, 0), Vortexpin.NORMAL);
            Due.same("kind ONE above its temperature", x.set(sample, 300, 0), Vortexpin.NORMAL);
        }
    }

    private static void boundsAreRounded() {
        Vortexpin x = new Vortexpin();
        x.sample(200, 1, 1000);
        x.sample(200, 1, 2);
        x.sample(200, 1, 1);
        x.sample(200, 999, 1000);
        Due.same("a lower bound of 0", x.set(0, 199, 0), Vortexpin.MIXED);
        Due.same("below an upper bound of 9", x.set(0, 199, 8), Vortexpin.MIXED);
        Due.same("at an upper bound of 9", x.set(0, 199, 9), Vortexpin.NORMAL);
        Due.same("both bounds 0", x.set(1, 199, 0), Vortexpin.NORMAL);
        Due.same("kind ONE, its bound 0", x.set(2, 199, 0), Vortexpin.NORMAL);
        Due.same("no overflow", x.set(3, 1, 997), Vortexpin.MEISSNER);
        Due.same("no overflow, mixed", x.set(3, 1, 998), Vortexpin.MIXED);
        Due.same("no overflow, normal", x.set(3, 1, 999), Vortexpin.NORMAL);
    }

    private static void leastAndGreatestSample() {
        Vortexpin x = new Vortexpin();
        x.sample(1, 1, 2);
        x.sample(1, 1, 1);
        x.sample(200, 1000, 1000);
        x.sample(200, 999, 1000);
        x.sample(200, 1000, 1);
        Due.same("critical 1, field 0", x.set(0, 0, 0), Vortexpin.MEISSNER);
        Due.same("critical 1, at the lower field 1", x.set(0, 0, 1), Vortexpin.MIXED);
        Due.same("critical 1, at the upper field 2", x.set(0, 0, -2), Vortexpin.NORMAL);
        Due.same("critical 1, at 1", x.set(0, 1, 0), Vortexpin.NORMAL);
        Due.same("kind ONE of field 1, field 0", x.set(1, 0, 0), Vortexpin.MEISSNER);
        Due.same("kind ONE of field 1, field -1", x.set(1, 0, -1), Vortexpin.NORMAL);
        Due.same("kind ONE of field 1000, field 999", x.set(2, 0, 999), Vortexpin.MEISSNER);
        Due.same("kind ONE of field 1000, field 1000", x.set(2, 0, 1000), Vortexpin.NORMAL);
        Due.same("critical 200, at 199, bound 9, field 8", x.set(2, 199, -8), Vortexpin.MEISSNER);
        Due.same("critical 200, at 199, bound 9, field 9", x.set(2, 199, -9), Vortexpin.NORMAL);
        Due.same("critical 200, at 200", x.set(2, 200, 0), Vortexpin.NORMAL);
        Due.same("lower 1 below the upper is TWO", x.set(3, 0, 999), Vortexpin.MIXED);
        Due.same("lower above the upper is ONE", x.set(4, 0, 999), Vortexpin.MEISSNER);
        Due.same("lower above the upper, at its bound", x.set(4, 0, 1000), Vortexpin.NORMAL);
    }

    private static void setRefuses() {
        Vortexpin x = new Vortexpin();
        x.sample(100, 50, 200);
        x.set(0, 50, 10);
        int[][] unknown = {{-1, 0, 0}, {1, 0, 0}, {8, 0, 0}, {1, 301, 0}, {1, 0, 1001}, {-1, -1, -1001},
            {Integer.MAX_VALUE, 0, 0}, {Integer.MIN_VALUE, 0, 0}};
        for (int[] w : unknown) {
            Due.unknown("set of no sample", () -> x.set(w[0], w[1], w[2]));
        }
        int[][] wrong = {{0, -1, 0}, {0, 301, 0}, {0, 0, 1001}, {0, 0, -1001}, {0, 0, Integer.MIN_VALUE}};
        for (int[] w : wrong) {
            Due.range("set out of range", () -> x.set(w[0], w[1], w[2]));
        }
        Due.sameDouble("deep as before", x.deep(0), 106.66666666666667);
        Due.same("set(0, 300, 1000)", x.set(0, 300, 1000), Vortexpin.NORMAL);
        Due.same("set(0, 300, -1000)", x.set(0, 300, -1000), Vortexpin.NORMAL);
        Due.same("set(0, 0, 0)", x.set(0, 0, 0), Vortexpin.MEISSNER);
    }

    private static void deep() {
        Vortexpin x = new Vortexpin();
        x.sample(100, 50, 200);
        x.sample(90, 60, 60);
        x.sample(3, 1, 1);
        Due.sameDouble("deep at 0", x.deep(0), 100.0);
        x.set(0, 50, 1000);
        Due.sameDouble("deep(0) at half", x.deep(0), 106.66666666666667);
        x.set(1, 30, 0);
        Due.sameDouble("deep(1) at a third", x.deep(1), 101.25);
        Due.sameDouble("deep(0) stays", x.deep(0), 106.66666666666667);
        x.set(0, 99, 0);
        double near = 99.0 / 100.0;
        near = near * near;
        Due.sameDouble("deep(0) near", x.deep(0), 100.0 / (1.0 - near * near));
        x.set(0, 100, 0);
        Due.sameDouble("deep(0) at its temperature", x.deep(0), 0.0);
        x.set(0, 300, 0);
        Due.sameDouble("deep(0) above", x.deep(0), 0.0);
        x.set(2, 1, 0);
        double third = 1.0 / 3.0;
        third = third * third;
        Due.sameDouble("deep(2)", x.deep(2), 100.0 / (1.0 - third * third));
        Due.unknown("deep(-1)", () -> x.deep(-1));
        Due.unknown("deep(3)", () -> x.deep(3));
        Due.unknown("deep(2147483647)", () -> x.deep(Integer.MAX_VALUE));
    }

    private static void deepAtTheCriticalTemperature() {
        int[] criticals = {1, 2, 137, 200};
        for (int critical : criticals) {
            Vortexpin x = new Vortexpin();
            x.sample(critical, 5, 5);
            Due.sameDouble("a new sample is at 0", x.deep(0), 100.0);
            x.set(0, critical - 1, 0);
            double below = (double) (critical - 1) / (double) critical;
            below = below * below;
            Due.sameDouble("1 below " + critical, x.deep(0), 100.0 / (1.0 - below * below));
            x.set(0, critical, 0);
            Due.sameDouble("at " + critical, x.deep(0), 0.0);
            x.set(0, critical + 1, 0);
            Due.sameDouble("1 above " + critical, x.deep(0), 0.0);
        }
    }
}
