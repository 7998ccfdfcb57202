/** Promises 16 to 21: current, heat, pass, warmth, ofCoil, share. */
public final class CoilTest {
    private static final int NORMAL = 0;
    private static final int DOUBT = 1;
    private static final int DUMPED = 2;
    private static final int WIRE = 3;
    private static final int DUMP = 4;
    private static final int ENERGY = 5;

    public static void main(String[] args) {
        currents();
        heats();
        normalParts();
        normalFromTheBoundOn();
        warmthSpreads();
        eighthsAndSixteenthsAreRounded();
        normalPartsAreWarmed();
        squareIsRounded();
        noPartAboveItsMost();
        threePulsesInARow();
        heatBetweenPulsesIsNoPulse();
        doubtOfBothSigns();
        doubtOfTwoIsEnough();
        toldCurrentCountsAnew();
        dumps();
        sharesByNewCurrent();
        sixteenthParts();
        noCurrentNoShare();
        refuses();
        Due.close();
    }

    private static void currents() {
        Vortexpin x = new Vortexpin();
        Due.same("current(1000)", x.current(1000), 0);
        Due.same("energy", x.ofCoil(ENERGY), 50000000);
        int[] wrong = {-1, 1001, Integer.MAX_VALUE, Integer.MIN_VALUE};
        for (int w : wrong) {
            Due.range("current out of range", () -> x.current(w));
        }
        Due.same("current(0)", x.current(0), 1000);
        Due.same("no energy", x.ofCoil(ENERGY), 0);
        Due.same("current(7)", x.current(7), 0);
        Due.same("energy of 7", x.ofCoil(ENERGY), 2450);
        Due.same("nothing of that is shared", x.ofCoil(WIRE) + x.ofCoil(DUMP), 0);
        Due.sameDouble("share", x.share(), 0.0);
    }

    private static void heats() {
        Vortexpin x = new Vortexpin();
        Due.same("heat(0, 1)", x.heat(0, 1), 5);
        Due.same("heat(0, 500)", x.heat(0, 500), 505);
        Due.same("heat(0, 495)", x.heat(0, 495), 1000);
        Due.same("heat(0, 1) at the most", x.heat(0, 1), 1000);
        Due.same("heat(11, 500)", x.heat(11, 500), 504);
        Due.same("heat(11, 500) again", x.heat(11, 500), 1000);
        Due.same("warmth(0)", x.warmth(0), 1000);
        Due.same("warmth(1)", x.warmth(1), 4);
        Due.same("warmth(11)", x.warmth(11), 1000);
    }

    private static void normalParts() {
        Vortexpin x = new Vortexpin();
        x.heat(2, 85);
        Due.same("89 at no current", x.ofCoil(NORMAL), 0);
        x.heat(2, 1);
        Due.same("90 at no current", x.ofCoil(NORMAL), 1);
        Due.same("doubt", x.ofCoil(DOUBT), 1);
        x.current(800);
        x.heat(6, 13);
        x.heat(11, 14);
        Due.same("17 and 18 at 800", x.ofCoil(NORMAL), 2);
        Due.same("doubt of 1 and 1", x.ofCoil(DOUBT), 0);
        x.heat(6, 1);
        Due.same("doubt of 1 and 2", x.ofCoil(DOUBT), -1);
        x.heat(5, 14);
        x.heat(4, 14);
        x.heat(0, 14);
        Due.same("doubt of 4 and 2", x.ofCoil(DOUBT), 2);
        Vortexpin y = new Vortexpin();
        y.current(944);
        Due.same("5.04 is 5", y.ofCoil(NORMAL), 0);
        y.current(945);
        Due.same("4.95 is 4", y.ofCoil(NORMAL), 12);
        Due.same("doubt of 6 and 6", y.ofCoil(DOUBT), 0);
        y.current(189);
        y.heat(0, 67);
        y.heat(1, 68);
        Due.same("71 and 72 at 72.99", y.ofCoil(NORMAL), 1);
        y.current(1000);
        Due.same("at 1000 all are normal", y.ofCoil(NORMAL), 12);
    }

    /** A current, and the temperature from which a part is normal then. */
    private static void normalFromTheBoundOn() {
        int[][] bounds = {{0, 90}, {1, 89}, {11, 89}, {12, 88}, {100, 81}, {500, 45}, {900, 9}, {933, 6}, {934, 5}};
        for (int[] b : bounds) {
            for (int part = 0; part < 12; part++) {
                Vortexpin x = new Vortexpin();
                x.current(b[0]);
                Due.same("all parts are cold", x.ofCoil(NORMAL), 0);
                if (b[1] > 5) {
                    x.heat(part, b[1] - 5);
                    Due.same("1 below the bound at " + b[0], x.ofCoil(NORMAL), 0);
                }
                x.heat(part, 1);
                Due.same("at the bound at " + b[0], x.ofCoil(NORMAL), 1);
                Due.same("doubt, by its half", x.ofCoil(DOUBT), part < 6 ? 1 : -1);
            }
        }
        Vortexpin x = new Vortexpin();
        x.current(945);
        Due.same("at 4 all are normal", x.ofCoil(NORMAL), 12);
    }

    private static void warmths(Vortexpin x, int... want) {
        for (int part = 0; part < want.length; part++) {
            Due.same("warmth(" + part + ")", x.warmth(part), want[part]);
        }
    }

    private static void warmthSpreads() {
        Vortexpin x = new Vortexpin();
        x.heat(5, 100);
        Due.same("pass(1)", x.pass(1), 0);
        warmths(x, 4, 4, 4, 4, 16, 74, 16, 4, 4, 4, 4, 4);
        x.pass(1);
        warmths(x, 4, 4, 4, 5, 22, 56, 22, 5, 4, 4, 4, 4);
        Vortexpin ends = new Vortexpin();
        ends.heat(0, 15);
        ends.heat(11, 39);
        ends.pass(1);
        warmths(ends, 18, 5, 4, 4, 4, 4, 4, 4, 4, 4, 8, 37);
        ends.pass(1);
        warmths(ends, 17, 6, 4, 4, 4, 4, 4, 4, 4, 4, 11, 32);
        Vortexpin many = new Vortexpin();
        Vortexpin single = new Vortexpin();
        for (int part = 0; part < 12; part += 3) {
            many.heat(part, 37 * part + 1);
            single.heat(part, 37 * part + 1);
        }
        many.pass(6);
        for (int pulse = 0; pulse < 6; pulse++) {
            single.pass(1);
        }
        for (int part = 0; part < 12; part++) {
            Due.same("6 pulses are 6 times one", many.warmth(part), single.warmth(part));
        }
    }

    /** What a part is above 4 and its neighbours, and what it and the one beside it have behind one pulse. */
    private static void eighthsAndSixteenthsAreRounded() {
        int[][] above = {{1, 1, 0}, {7, 7, 0}, {8, 6, 1}, {15, 13, 1}, {16, 11, 2}, {23, 18, 2}, {24, 17, 3}, {31, 24, 3}, {32, 22, 4}};
        for (int[] a : above) {
            for (int part = 1; part < 11; part++) {
                Vortexpin x = new Vortexpin();
                x.heat(part, a[0]);
                x.pass(1);
                Due.same("part " + part + " heated by " + a[0], x.warmth(part), 4 + a[1]);
                Due.same("ahead of it", x.warmth(part - 1), 4 + a[2]);
                Due.same("behind it", x.warmth(part + 1), 4 + a[2]);
            }
            Vortexpin ends = new Vortexpin();
            ends.heat(0, a[0]);
            ends.heat(11, a[0]);
            ends.pass(1);
            Due.same("the first part has one beside it", ends.warmth(0), 4 + a[1] + a[2]);
            Due.same("the last part has one beside it", ends.warmth(11), 4 + a[1] + a[2]);
            Due.same("beside the first", ends.warmth(1), 4 + a[2]);
            Due.same("beside the last", ends.warmth(10), 4 + a[2]);
        }
        Vortexpin each = new Vortexpin();
        each.heat(4, 12);
        each.heat(6, 12);
        each.pass(1);
        Due.same("12 of each side, rounded by itself", each.warmth(5), 6);
        Vortexpin apart = new Vortexpin();
        apart.heat(5, 15);
        apart.pass(1);
        Due.same("15 to each side, and 15 of its own, rounded apart", apart.warmth(5), 17);
    }

    /** A current, and what a normal part gets of it. */
    private static void squareIsRounded() {
        int[][] squares = {{0, 0}, {1, 0}, {44, 0}, {45, 1}, {63, 1}, {64, 2}, {999, 499}, {1000, 500}};
        for (int[] s : squares) {
            Vortexpin x = new Vortexpin();
            x.current(s[0]);
            for (int part = 0; part < 12; part++) {
                x.heat(part, 96);
            }
            x.pass(1);
            for (int part = 0; part < 12; part++) {
                Due.same("all parts at 100, current " + s[0], x.warmth(part), 94 + s[1]);
            }
        }
    }

    private static void normalPartsAreWarmed() {
        Vortexpin x = new Vortexpin();
        x.current(63);
        x.heat(0, 86);
        x.heat(6, 79);
        x.pass(1);
        warmths(x, 76, 14, 4, 4, 4, 13, 61, 13, 4, 4, 4, 4);
        Vortexpin y = new Vortexpin();
        y.current(500);
        y.heat(3, 41);
        y.heat(9, 40);
        Due.same("pass(1)", y.pass(1), 500);
        warmths(y, 4, 4, 9, 158, 9, 4, 4, 4, 9, 32, 9, 4);
        Vortexpin z = new Vortexpin();
        z.current(228);
        z.heat(0, 68);
        z.pass(1);
        warmths(z, 85, 12);
    }

    private static void noPartAboveItsMost() {
        Vortexpin x = new Vortexpin();
        x.current(1000);
        x.pass(1);
        warmths(x, 504, 504, 504, 504, 504, 504, 504, 504, 504, 504, 504, 504);
        x.pass(1);
        warmths(x, 973, 973, 973, 973, 973, 973, 973, 973, 973, 973, 973, 973);
        x.pass(1);
        warmths(x, 1000, 1000, 1000, 1000, 1000, 1000, 1000, 1000, 1000, 1000, 1000, 1000);
        Due.same("pass(50)", x.pass(50), 1000);
        warmths(x, 1000, 1000, 1000, 1000, 1000, 1000, 1000, 1000, 1000, 1000, 1000, 1000);
        Due.same("all normal: no doubt", x.ofCoil(DUMPED), 0);
    }

    /** A coil at current 100, whose normal parts are from 81 on; parts at 1000 stay normal for some pulses. */
    private static Vortexpin withHot(int... parts) {
        Vortexpin x = new Vortexpin();
        x.current(100);
        for (int part : parts) {
            hot(x, part);
        }
        return x;
    }

    private static void hot(Vortexpin x, int part) {
        x.heat(part, 500);
        x.heat(part, 500);
    }

    private static void threePulsesInARow() {
        Vortexpin x = withHot(1, 3);
        Due.same("pass(2)", x.pass(2), 100);
        Due.same("two pulses in a row", x.ofCoil(DUMPED), 0);
        for (int part = 6; part < 12; part++) {
            hot(x, part);
        }
        for (int part = 0; part < 6; part++) {
            hot(x, part);
        }
        Due.same("pass(1)", x.pass(1), 100);
        Due.same("no doubt", x.ofCoil(DOUBT), 0);
        Due.same("not dumped", x.ofCoil(DUMPED), 0);
        Vortexpin y = withHot(1);
        Due.same("pass(1)", y.pass(1), 100);
        Due.same("doubt", y.ofCoil(DOUBT), 3);
        hot(y, 7);
        y.pass(1);
        Due.same("doubt, evened out", y.ofCoil(DOUBT), 0);
        hot(y, 2);
        hot(y, 3);
        y.pass(1);
        Due.same("doubt again", y.ofCoil(DOUBT), 2);
        y.pass(1);
        Due.same("two in a row", y.ofCoil(DUMPED), 0);
        Due.same("still doubt", y.ofCoil(DOUBT), 2);
        Due.same("the third one in a row", y.pass(1), 100);
        Due.same("dumped", y.ofCoil(DUMPED), 1);
        Due.same("nothing shared yet", y.ofCoil(WIRE) + y.ofCoil(DUMP), 0);
        Due.same("the pulse behind it", y.pass(1), 93);
    }

    private static void heatBetweenPulsesIsNoPulse() {
        Vortexpin x = withHot(1);
        x.pass(1);
        hot(x, 2);
        Due.same("doubt of four", x.ofCoil(DOUBT), 3);
        Due.same("not dumped by asking and heating", x.ofCoil(DUMPED), 0);
        x.pass(1);
        hot(x, 1);
        Due.same("two pulses", x.ofCoil(DUMPED), 0);
        x.pass(1);
        Due.same("three pulses", x.ofCoil(DUMPED), 1);
        Vortexpin even = withHot(1);
        even.pass(1);
        hot(even, 6);
        hot(even, 7);
        hot(even, 8);
        Due.same("no doubt ahead of the pulse", even.ofCoil(DOUBT), 0);
        hot(even, 2);
        hot(even, 0);
        hot(even, 3);
        even.pass(2);
        Due.same("doubt of 6 and 4", even.ofCoil(DOUBT), 2);
        Due.same("the doubt counts at the ends of pulses", even.ofCoil(DUMPED), 1);
    }

    private static void doubtOfBothSigns() {
        int[][] halves = {{2}, {9}};
        for (int[] half : halves) {
            Vortexpin x = withHot(half);
            x.pass(1);
            Due.same("doubt", x.ofCoil(DOUBT), half[0] < 6 ? 3 : -3);
            x.pass(2);
            Due.same("dumped", x.ofCoil(DUMPED), 1);
        }
        Vortexpin one = new Vortexpin();
        one.heat(2, 136);
        for (int pulse = 0; pulse < 9; pulse++) {
            one.pass(1);
            Due.same("doubt of one part", one.ofCoil(DOUBT), 1);
            one.heat(2, 140 - one.warmth(2));
            Due.same("doubt of 1 is none", one.ofCoil(DUMPED), 0);
        }
        Vortexpin both = new Vortexpin();
        both.heat(2, 200);
        both.heat(4, 200);
        both.pass(1);
        Due.same("doubt of two parts", both.ofCoil(DOUBT), 2);
        both.heat(2, 204 - both.warmth(2));
        both.heat(4, 204 - both.warmth(4));
        both.pass(1);
        both.heat(2, 204 - both.warmth(2));
        both.heat(4, 204 - both.warmth(4));
        both.pass(1);
        Due.same("doubt of 2 is enough", both.ofCoil(DUMPED), 1);
        Vortexpin edge = withHot(5, 6);
        edge.pass(3);
        Due.same("one in each half", edge.ofCoil(DOUBT), 0);
        Due.same("not dumped", edge.ofCoil(DUMPED), 0);
    }

    /** Parts kept at 204, normal from 90 on: those beside them stay below that. */
    private static void doubtOfTwoIsEnough() {
        int[][] cases = {{1, 4, 2, 1}, {7, 10, -2, 1}, {2, 9, 0, 0}, {4, 4, 1, 0}, {9, 9, -1, 0}};
        for (int[] c : cases) {
            Vortexpin x = new Vortexpin();
            for (int pulse = 1; pulse <= 3; pulse++) {
                Due.same("not dumped ahead of pulse " + pulse, x.ofCoil(DUMPED), 0);
                keepWarm(x, c[0]);
                keepWarm(x, c[1]);
                x.pass(1);
                Due.same("doubt of parts " + c[0] + " and " + c[1], x.ofCoil(DOUBT), c[2]);
            }
            Due.same("dumped for parts " + c[0] + " and " + c[1], x.ofCoil(DUMPED), c[3]);
        }
    }

    private static void keepWarm(Vortexpin x, int part) {
        if (x.warmth(part) < 204) {
            x.heat(part, 204 - x.warmth(part));
        }
    }

    private static void toldCurrentCountsAnew() {
        Vortexpin x = withHot(1);
        x.pass(2);
        Due.same("current(100)", x.current(100), 100);
        x.pass(2);
        Due.same("two since", x.ofCoil(DUMPED), 0);
        x.pass(1);
        Due.same("three since", x.ofCoil(DUMPED), 1);
        Due.same("pass(1)", x.pass(1), 93);
        long wire = x.ofCoil(WIRE);
        long dump = x.ofCoil(DUMP);
        Due.same("both got what was lost", wire + dump, 50 * (100 * 100 - 93 * 93));
        Due.range("current(1001)", () -> x.current(1001));
        Due.same("dumped as before", x.ofCoil(DUMPED), 1);
        Due.same("current(80)", x.current(80), 93);
        Due.same("dumped no more", x.ofCoil(DUMPED), 0);
        Due.same("the wire as before", x.ofCoil(WIRE), wire);
        Due.same("the dump as before", x.ofCoil(DUMP), dump);
        hot(x, 1);
        Due.same("pass(3)", x.pass(3), 80);
        Due.same("found again", x.ofCoil(DUMPED), 1);
        Due.same("pass(1)", x.pass(1), 75);
        Due.same("both got more", x.ofCoil(WIRE) + x.ofCoil(DUMP), wire + dump + 50 * (80 * 80 - 75 * 75));
    }

    private static void dumps() {
        Vortexpin x = new Vortexpin();
        x.current(800);
        x.heat(0, 100);
        x.heat(1, 100);
        x.heat(2, 100);
        Due.same("pass(3)", x.pass(3), 800);
        Due.same("pass(1)", x.pass(1), 750);
        Due.same("the wire got", x.ofCoil(WIRE), 645833);
        Due.same("the dump got", x.ofCoil(DUMP), 3229167);
        Due.same("the energy", x.ofCoil(ENERGY), 28125000);
        Due.sameDouble("share", x.share(), 645833.0 / 3875000.0);
        Due.same("pass(20)", x.pass(20), 201);
        Due.same("the wire got", x.ofCoil(WIRE), 7330713);
        Due.same("the dump got", x.ofCoil(DUMP), 22649237);
        Due.sameDouble("share", x.share(), 7330713.0 / 29979950.0);
        Due.same("still dumped", x.ofCoil(DUMPED), 1);
    }

    /** At 900 a part is normal from 9 on, at 843 from 14 on. */
    private static void sharesByNewCurrent() {
        Vortexpin x = new Vortexpin();
        x.current(900);
        hot(x, 0);
        x.pass(3);
        Due.same("dumped", x.ofCoil(DUMPED), 1);
        int cold = 0;
        while (x.warmth(cold) >= 14) {
            cold++;
        }
        Due.same("normal parts of ahead", x.ofCoil(NORMAL), cold);
        int more = 11 - x.warmth(11);
        x.heat(11, more);
        Due.same("one more is normal at the current of ahead", x.ofCoil(NORMAL), cold + 1);
        int far = x.warmth(9);
        Due.same("pass(1)", x.pass(1), 843);
        long lost = 50L * (900 * 900 - 843 * 843);
        Due.same("the wire got by the new current", x.ofCoil(WIRE), lost * cold / (cold + 20));
        Due.same("the dump got the rest", x.ofCoil(DUMP), lost - lost * cold / (cold + 20));
        Due.same("it was not warmed", x.warmth(11), 11);
        Due.same("nor one far off", x.warmth(9), far);
    }

    private static void sixteenthParts() {
        int[][] losses = {{1000, 937}, {160, 150}, {161, 150}, {17, 15}, {16, 15}, {15, 14}, {1, 0}, {0, 0}};
        for (int[] l : losses) {
            Vortexpin x = new Vortexpin();
            x.current(l[0]);
            hot(x, 0);
            hot(x, 1);
            for (int pulse = 0; pulse < 3; pulse++) {
                x.pass(1);
            }
            boolean found = x.ofCoil(DUMPED) == 1;
            Due.same("pass(1) from " + l[0], x.pass(1), found ? l[1] : l[0]);
            Due.same("found, but where all are normal", found ? 1 : 0, l[0] == 1000 ? 0 : 1);
        }
        Vortexpin x = withHot(0, 1, 2);
        x.pass(3);
        Due.same("pass(50)", x.pass(50), 0);
        Due.same("the whole energy is shared", x.ofCoil(WIRE) + x.ofCoil(DUMP), 500000);
    }

    private static void noCurrentNoShare() {
        Vortexpin x = withHot(1);
        x.current(0);
        Due.same("pass(3)", x.pass(3), 0);
        Due.same("dumped at no current", x.ofCoil(DUMPED), 1);
        Due.same("pass(1)", x.pass(1), 0);
        Due.same("the wire got nothing", x.ofCoil(WIRE), 0);
        Due.same("the dump got nothing", x.ofCoil(DUMP), 0);
        Due.sameDouble("share of nothing", x.share(), 0.0);
        Vortexpin cold = withHot(0, 1, 2);
        cold.current(1);
        Due.same("pass(3)", cold.pass(3), 1);
        Due.same("the last of the current goes", cold.pass(1), 0);
        long wire = cold.ofCoil(WIRE);
        Due.same("its 50 are shared", wire + cold.ofCoil(DUMP), 50);
        Due.sameDouble("share of 50", cold.share(), wire / 50.0);
    }

    private static void refuses() {
        Vortexpin x = withHot(1);
        int[] parts = {-1, 12, Integer.MAX_VALUE, Integer.MIN_VALUE};
        for (int w : parts) {
            Due.unknown("heat of none", () -> x.heat(w, 1));
            Due.unknown("heat of none, out of range", () -> x.heat(w, 0));
            Due.unknown("warmth of none", () -> x.warmth(w));
        }
        int[] more = {0, 501, -1, Integer.MAX_VALUE, Integer.MIN_VALUE};
        for (int w : more) {
            Due.range("heat out of range", () -> x.heat(2, w));
        }
        int[] pulses = {0, 51, -1, Integer.MAX_VALUE, Integer.MIN_VALUE};
        for (int w : pulses) {
            Due.range("pass out of range", () -> x.pass(w));
        }
        int[] asked = {-1, 6, Integer.MAX_VALUE, Integer.MIN_VALUE};
        for (int w : asked) {
            Due.range("ofCoil out of range", () -> x.ofCoil(w));
        }
        warmths(x, 4, 1000, 4, 4, 4, 4, 4, 4, 4, 4, 4, 4);
        x.pass(2);
        Due.same("no pulses but two", x.ofCoil(DUMPED), 0);
        x.pass(1);
        Due.same("the third one", x.ofCoil(DUMPED), 1);
    }
}
