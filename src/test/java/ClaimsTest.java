/** Promises 25 to 28: point, claim, repeats, judge. */
public final class ClaimsTest {
    public static void main(String[] args) {
        points();
        claimRefuses();
        claimsAreEight();
        thin();
        thinByFewerThanFourFifths();
        openWithoutPairs();
        openByTemperature();
        openByVoltages();
        openBySomeTwo();
        houses();
        housesAtTheBounds();
        judgeRefuses();
        firstVerdictCounts();
        Due.close();
    }

    private static void points() {
        Vortexpin x = new Vortexpin();
        int[][] wrong = {{-1, 0, 0}, {301, 0, 0}, {0, -1001, 0}, {0, 1001, 0}, {0, 0, -1000001}, {0, 0, 1000001},
            {Integer.MIN_VALUE, 0, 0}, {0, Integer.MIN_VALUE, 0}, {0, 0, Integer.MIN_VALUE}};
        for (int[] w : wrong) {
            Due.range("point out of range", () -> x.point(w[0], w[1], w[2]));
        }
        Due.same("point(0, -1000, -1000000)", x.point(0, -1000, -1000000), 1);
        Due.same("point(300, 1000, 1000000)", x.point(300, 1000, 1000000), 2);
        for (int count = 3; count <= 60; count++) {
            Due.same("point(0, 0, 0)", x.point(0, 0, 0), count);
        }
        Due.full("a sixty-first point", () -> x.point(0, 0, 0));
        for (int[] w : wrong) {
            Due.range("a sixty-first point out of range", () -> x.point(w[0], w[1], w[2]));
        }
        Due.same("claim(1, 59, 59)", x.claim(1, 59, 59), 0);
        Due.unknown("no sixty-first point stands", () -> x.claim(1, 0, 60));
    }

    private static void claimRefuses() {
        Vortexpin x = new Vortexpin();
        Due.unknown("no point at all", () -> x.claim(1, 0, 0));
        x.point(20, 5, 100);
        x.point(20, -5, 100);
        int[][] unknown = {{1, -1, 0}, {1, 2, 2}, {1, 0, 2}, {1, 0, -1}, {0, 2, 2}, {301, 0, 2}, {0, -1, 0},
            {1, Integer.MAX_VALUE, 0}, {1, 0, Integer.MIN_VALUE}, {1, 2, 0}};
        for (int[] w : unknown) {
            Due.unknown("claim of no such point", () -> x.claim(w[0], w[1], w[2]));
        }
        int[][] wrong = {{0, 0, 0}, {301, 0, 1}, {30, 1, 0}, {-1, 1, 0}, {Integer.MIN_VALUE, 0, 0}, {Integer.MAX_VALUE, 0, 0}};
        for (int[] w : wrong) {
            Due.range("claim out of range", () -> x.claim(w[0], w[1], w[2]));
        }
        Due.same("claim(1, 0, 0)", x.claim(1, 0, 0), 0);
        Due.same("claim(300, 0, 1)", x.claim(300, 0, 1), 1);
    }

    private static void claimsAreEight() {
        Vortexpin x = new Vortexpin();
        x.point(20, 5, 100);
        x.point(20, -5, 100);
        for (int number = 0; number < 8; number++) {
            Due.same("claim(30, 0, 1)", x.claim(30, 0, 1), number);
        }
        Due.full("a ninth claim", () -> x.claim(30, 0, 1));
        Due.range("a ninth claim out of range", () -> x.claim(0, 0, 1));
        Due.range("a ninth claim turned round", () -> x.claim(30, 1, 0));
        Due.unknown("a ninth claim of no point", () -> x.claim(0, 0, 2));
        Due.unknown("no ninth claim stands", () -> x.judge(8, 0));
        Due.same("the eighth one stands", x.judge(7, 0), Vortexpin.UNTOLD);
    }

    private static void thin() {
        Vortexpin x = new Vortexpin();
        x.point(20, 5, 100);
        x.point(20, -5, 100);
        x.point(20, 0, 0);
        x.point(20, 0, 0);
        x.claim(30, 0, 3);
        x.point(20, 0, 0);
        x.claim(30, 0, 3);
        x.claim(30, 0, 2);
        x.claim(30, 1, 4);
        x.claim(30, 2, 4);
        x.point(20, 0, 0);
        x.claim(30, 0, 3);
        x.claim(30, 0, 4);
        Due.same("4 of 4", x.judge(0, 0), Vortexpin.UNTOLD);
        Due.same("4 of 5 is enough", x.judge(1, 0), Vortexpin.UNTOLD);
        Due.same("3 of 5 is thin", x.judge(2, 0), Vortexpin.THIN);
        Due.same("4 of 5, without the first", x.judge(3, 0), Vortexpin.OPEN);
        Due.same("the last 3 of 5 are thin", x.judge(4, 0), Vortexpin.THIN);
        Due.same("4 of 6 is thin", x.judge(5, 0), Vortexpin.THIN);
        Due.same("5 of 6", x.judge(6, 0), Vortexpin.UNTOLD);
        for (int more = 0; more < 50; more++) {
            x.point(20, 0, 0);
        }
        Due.same("4 of the 5 that there were then", x.judge(1, 0), Vortexpin.UNTOLD);
    }

    /** Of 4, 12 and so on to 60 points: the fewest that are not thin, and 1 fewer. */
    private static void thinByFewerThanFourFifths() {
        Vortexpin x = new Vortexpin();
        Vortexpin y = new Vortexpin();
        for (int all = 1; all <= 60; all++) {
            x.point(20, 0, 0);
            y.point(20, 0, 0);
            int enough = 0;
            while (5 * enough < 4 * all) {
                enough++;
            }
            if (all % 8 == 4) {
                int number = y.claim(30, all - enough, all - 1);
                Due.same("the last " + enough + " of " + all, y.judge(number, 0), Vortexpin.OPEN);
                number = x.claim(30, 1, enough - 1);
                Due.same("1 fewer of " + all, x.judge(number, 0), Vortexpin.THIN);
            }
        }
    }

    /** The temperature of a claim and of its two points. */
    private static void openByTemperature() {
        int[][] cases = {{1, 0, Vortexpin.UNTOLD}, {1, 1, Vortexpin.OPEN}, {1, 2, Vortexpin.OPEN}, {2, 1, Vortexpin.UNTOLD},
            {300, 299, Vortexpin.UNTOLD}, {300, 300, Vortexpin.OPEN}, {300, 0, Vortexpin.UNTOLD}, {299, 300, Vortexpin.OPEN}};
        for (int[] c : cases) {
            int[] currents = {1, 1000};
            for (int current : currents) {
                Vortexpin x = new Vortexpin();
                x.point(c[1], current, 0);
                x.point(c[1], -current, 0);
                x.claim(c[0], 0, 1);
                Due.same("points at " + c[1] + ", claim of " + c[0], x.judge(0, 0), c[2]);
            }
        }
    }

    private static void openWithoutPairs() {
        int[][] pairs = {
            {20, 5, 20, -5, Vortexpin.UNTOLD},
            {20, -5, 20, 5, Vortexpin.UNTOLD},
            {0, 1, 0, -1, Vortexpin.UNTOLD},
            {29, 1000, 29, -1000, Vortexpin.UNTOLD},
            {30, 5, 30, -5, Vortexpin.OPEN},
            {31, 5, 31, -5, Vortexpin.OPEN},
            {20, 5, 21, -5, Vortexpin.OPEN},
            {20, 5, 20, -6, Vortexpin.OPEN},
            {20, 5, 20, 5, Vortexpin.OPEN},
            {20, -5, 20, -5, Vortexpin.OPEN},
            {20, 0, 20, 0, Vortexpin.OPEN},
        };
        for (int[] p : pairs) {
            Vortexpin x = new Vortexpin();
            x.point(p[0], p[1], 7);
            x.point(p[2], p[3], 7);
            x.claim(30, 0, 1);
            x.claim(30, 0, 0);
            Due.same("judge of " + p[0] + " " + p[1] + ", " + p[2] + " " + p[3], x.judge(0, 1000000), p[4]);
            Due.same("judge of one of two", x.judge(1, 1000000), Vortexpin.THIN);
        }
        Vortexpin one = new Vortexpin();
        one.point(20, 5, 0);
        one.claim(30, 0, 0);
        Due.same("one point is no pair", one.judge(0, 0), Vortexpin.OPEN);
    }

    private static void openByVoltages() {
        int[][] voltages = {
            {100, 104, 2, Vortexpin.UNTOLD},
            {104, 100, 2, Vortexpin.UNTOLD},
            {100, 105, 2, Vortexpin.OPEN},
            {105, 100, 2, Vortexpin.OPEN},
            {100, 100, 0, Vortexpin.UNTOLD},
            {100, 101, 0, Vortexpin.OPEN},
            {100, -100, 99, Vortexpin.OPEN},
            {100, -100, 100, Vortexpin.UNTOLD},
            {1000000, -1000000, 1000000, Vortexpin.UNTOLD},
            {1000000, -1000000, 999999, Vortexpin.OPEN},
            {-1000000, 1000000, 999999, Vortexpin.OPEN},
        };
        for (int[] v : voltages) {
            Vortexpin x = new Vortexpin();
            x.point(20, 5, v[0]);
            x.point(20, -5, v[1]);
            x.claim(30, 0, 1);
            Due.same("judge of " + v[0] + ", " + v[1] + " at " + v[2], x.judge(0, v[2]), v[3]);
        }
        Vortexpin x = new Vortexpin();
        x.point(40, 6, 900);
        x.point(20, 5, 100);
        x.point(20, -5, 100);
        x.point(40, -6, 100);
        x.point(20, 0, 900);
        x.claim(30, 0, 4);
        Due.same("points as warm as the claim do not count", x.judge(0, 0), Vortexpin.UNTOLD);
        x.point(20, -5, 101);
        x.claim(30, 0, 4);
        Due.same("points behind the claim do not count", x.judge(1, 0), Vortexpin.UNTOLD);
        x.claim(30, 0, 5);
        Due.same("one pair of two is enough", x.judge(2, 0), Vortexpin.OPEN);
        x.claim(30, 1, 5);
        Due.same("points from the first one on", x.judge(3, 0), Vortexpin.OPEN);
        Vortexpin y = new Vortexpin();
        y.point(20, 5, 900);
        y.point(20, 5, 100);
        y.point(20, -5, 100);
        y.point(20, 7, 100);
        y.point(20, -7, 101);
        y.claim(30, 1, 4);
        Due.same("points ahead of the claim do not count", y.judge(0, 1), Vortexpin.UNTOLD);
        Due.same("the last point counts", y.judge(0, 0), Vortexpin.OPEN);
    }

    /** Of four points of one temperature and current, one is off: whichever it is, some two are too far apart. */
    private static void openBySomeTwo() {
        int[][] signs = {{1, 1, -1, -1}, {1, -1, 1, -1}, {1, -1, -1, 1}, {-1, 1, 1, -1}, {-1, 1, -1, 1}, {-1, -1, 1, 1}};
        for (int[] s : signs) {
            for (int off = 0; off <= 4; off++) {
                Vortexpin x = new Vortexpin();
                for (int point = 0; point < 4; point++) {
                    x.point(20, 5 * s[point], point == off ? 105 : 100);
                }
                x.claim(30, 0, 3);
                Due.same("above twice the noise", x.judge(0, 2), off < 4 ? Vortexpin.OPEN : Vortexpin.UNTOLD);
                Due.same("at most twice the noise", x.judge(0, 3), Vortexpin.UNTOLD);
            }
        }
        Vortexpin same = new Vortexpin();
        same.point(20, 5, 100);
        same.point(20, 5, 900);
        same.point(20, -6, 100);
        same.point(20, 6, 100);
        same.claim(30, 0, 3);
        Due.same("two of one sign are no such two", same.judge(0, 0), Vortexpin.UNTOLD);
    }

    private static Vortexpin withClaim() {
        Vortexpin x = new Vortexpin();
        x.point(20, 5, 100);
        x.point(20, -5, 100);
        x.claim(30, 0, 1);
        x.claim(30, 0, 1);
        return x;
    }

    private static void houses() {
        Vortexpin x = withClaim();
        Due.same("untold", x.judge(0, 0), Vortexpin.UNTOLD);
        Due.same("repeats(0, 0, false)", x.repeats(0, 0, false), 0);
        Due.same("repeats(0, 1, true)", x.repeats(0, 1, true), 1);
        Due.same("repeats(0, 1, true) again", x.repeats(0, 1, true), 1);
        Due.same("one is untold, though one did not", x.judge(0, 0), Vortexpin.UNTOLD);
        Due.same("repeats(0, 6, true)", x.repeats(0, 6, true), 2);
        Due.same("2 to 1", x.judge(0, 0), Vortexpin.PASSED);
        Due.same("repeats(0, 2, false)", x.repeats(0, 2, false), 2);
        Due.same("2 to 2", x.judge(0, 0), Vortexpin.REFUSED);
        Due.same("repeats(0, 3, false)", x.repeats(0, 3, false), 2);
        Due.same("2 to 3", x.judge(0, 0), Vortexpin.REFUSED);
        Due.same("repeats(0, 2, true)", x.repeats(0, 2, true), 3);
        Due.same("3 to 2, by the last words", x.judge(0, 0), Vortexpin.PASSED);
        Due.same("repeats(0, 6, false)", x.repeats(0, 6, false), 2);
        Due.same("2 to 3, by the last words", x.judge(0, 0), Vortexpin.REFUSED);
        Due.same("repeats(0, 2, false)", x.repeats(0, 2, false), 1);
        Due.same("one did: untold", x.judge(0, 0), Vortexpin.UNTOLD);
        Due.same("the other claim is untold", x.judge(1, 0), Vortexpin.UNTOLD);
        Due.same("repeats(1, 0, true)", x.repeats(1, 0, true), 1);
        Due.same("repeats(1, 5, true)", x.repeats(1, 5, true), 2);
        Due.same("2 to 0", x.judge(1, 0), Vortexpin.PASSED);
        for (int house = 0; house < 7; house++) {
            x.repeats(1, house, true);
        }
        Due.same("all 7", x.repeats(1, 3, true), 7);
        int[][] unknown = {{-1, 0}, {2, 0}, {0, -1}, {0, 7}, {8, 8}, {Integer.MAX_VALUE, 0}, {0, Integer.MIN_VALUE}};
        for (int[] w : unknown) {
            Due.unknown("repeats of none", () -> x.repeats(w[0], w[1], true));
        }
        Due.same("nothing was told", x.repeats(0, 0, false), 1);
    }

    /** Of 7 houses, how many did and how many did not. */
    private static void housesAtTheBounds() {
        for (int did = 0; did <= 7; did++) {
            for (int not = 0; not + did <= 7; not++) {
                Vortexpin x = withClaim();
                for (int house = 0; house < did + not; house++) {
                    int due = house < not ? 0 : house - not + 1;
                    Due.same("repeats", x.repeats(0, 6 - house, house >= not), due);
                }
                int due = did < 2 ? Vortexpin.UNTOLD : not >= did ? Vortexpin.REFUSED : Vortexpin.PASSED;
                Due.same(did + " did, " + not + " did not", x.judge(0, 0), due);
            }
        }
    }

    private static void judgeRefuses() {
        Vortexpin x = withClaim();
        int[][] unknown = {{-1, 0}, {2, 0}, {2, -1}, {2, 1000001}, {Integer.MAX_VALUE, 0}, {Integer.MIN_VALUE, 0}};
        for (int[] w : unknown) {
            Due.unknown("judge of none", () -> x.judge(w[0], w[1]));
        }
        int[] wrong = {-1, 1000001, Integer.MAX_VALUE, Integer.MIN_VALUE};
        for (int w : wrong) {
            Due.range("judge out of range", () -> x.judge(0, w));
        }
        Due.same("judge(0, 0)", x.judge(0, 0), Vortexpin.UNTOLD);
        Due.same("judge(0, 1000000)", x.judge(0, 1000000), Vortexpin.UNTOLD);
    }

    private static void firstVerdictCounts() {
        Vortexpin x = new Vortexpin();
        x.point(20, 5, 100);
        x.point(20, -5, 200);
        x.point(20, 0, 0);
        x.claim(30, 0, 1);
        x.claim(30, 0, 2);
        for (int house = 0; house < 6; house++) {
            x.repeats(0, house, house < 3);
            x.repeats(1, house, house < 3);
        }
        Due.same("thin ahead of open", x.judge(0, 0), Vortexpin.THIN);
        Due.same("open ahead of refused", x.judge(1, 0), Vortexpin.OPEN);
        Due.same("refused, if not open", x.judge(1, 50), Vortexpin.REFUSED);
    }
}
