/** Promises 5 to 11: pin, drive, enter, step, avalanche, whirlAt, energy. */
public final class FilmTest {
    public static void main(String[] args) {
        pin();
        driveRefuses();
        enterChooses();
        enterRefuses();
        enterAtThePressure();
        energies();
        firstSideOfEqualOnes();
        goesToTheLeast();
        staysAtTheEdges();
        byNumbers();
        leaves();
        leavesFromTheLastColumnAlone();
        leavesBelowDriveAndHeat();
        creeps();
        creepsAtMostAtTheHeat();
        creepsToNoCellOffTheFilm();
        creepsToNoTakenCell();
        oneWhirlInACell();
        avalanches();
        avalancheOfSixtySteps();
        asksOfWhirls();
        Due.close();
    }

    /** A film with one whirl, 0, at a cell; its depths are all 0 again. */
    private static Vortexpin withWhirlAt(int cell) {
        Vortexpin x = new Vortexpin();
        lead(x, cell);
        return x;
    }

    /** Lets a whirl enter in the row of a cell and leads it there; whirls that are pinned stay. */
    private static int lead(Vortexpin x, int goal) {
        int at = goal / 8 * 8;
        int before = x.pin(at, 50);
        int whirl = x.enter(1000);
        x.pin(at, before);
        while (at < goal) {
            before = x.pin(at + 1, 50);
            x.step();
            x.pin(at + 1, before);
            at++;
        }
        Due.same("led", x.whirlAt(whirl), goal);
        return whirl;
    }

    private static void pin() {
        Vortexpin x = new Vortexpin();
        Due.same("pin(0, 50)", x.pin(0, 50), 0);
        Due.same("pin(47, 1)", x.pin(47, 1), 0);
        int[][] unknown = {{-1, 0}, {48, 0}, {48, 51}, {-1, -1}, {Integer.MAX_VALUE, 0}, {Integer.MIN_VALUE, 0}};
        for (int[] w : unknown) {
            Due.unknown("pin of no cell", () -> x.pin(w[0], w[1]));
        }
        int[][] wrong = {{0, -1}, {0, 51}, {47, Integer.MAX_VALUE}, {47, Integer.MIN_VALUE}};
        for (int[] w : wrong) {
            Due.range("pin out of range", () -> x.pin(w[0], w[1]));
        }
        Due.same("pin(0, 3)", x.pin(0, 3), 50);
        Due.same("pin(0, 0)", x.pin(0, 0), 3);
        Due.same("pin(47, 0)", x.pin(47, 0), 1);
        Due.same("enter(0)", x.enter(0), 0);
        Due.same("energy(0)", x.energy(0), 0);
        x.pin(0, 9);
        Due.same("energy(0) of a cell pinned later", x.energy(0), -9);
    }

    private static void driveRefuses() {
        Vortexpin x = withWhirlAt(2);
        x.drive(-9, 30);
        Due.same("energy at drive -9", x.energy(0), 18);
        int[][] wrong = {{-10, 0}, {10, 0}, {0, -1}, {0, 31}, {Integer.MIN_VALUE, 0}, {0, Integer.MAX_VALUE}};
        for (int[] w : wrong) {
            Due.range("drive out of range", () -> x.drive(w[0], w[1]));
        }
        Due.same("energy as before", x.energy(0), 18);
        x.drive(9, 0);
        Due.same("energy at drive 9", x.energy(0), -18);
        x.drive(0, 0);
        Due.same("energy at no drive", x.energy(0), 0);
    }

    private static void enterChooses() {
        Vortexpin x = new Vortexpin();
        x.pin(16, 10);
        x.pin(33, 50);
        Due.same("enter(-11)", x.enter(-11), Vortexpin.NONE);
        Due.unknown("no whirl entered", () -> x.whirlAt(0));
        Due.same("enter(-10)", x.enter(-10), 0);
        Due.same("at the least energy", x.whirlAt(0), 16);
        Due.same("enter(1)", x.enter(1), Vortexpin.NONE);
        Due.same("enter(2)", x.enter(2), 1);
        Due.same("4 cells have 12, 6, 2: the least", x.whirlAt(1), 40);
        Due.same("enter(5)", x.enter(5), Vortexpin.NONE);
        Due.same("enter(6)", x.enter(6), 2);
        Due.same("the lowest", x.whirlAt(2), 0);
        Due.same("enter(17)", x.enter(17), Vortexpin.NONE);
        Due.same("enter(18)", x.enter(18), 3);
        Due.same("the sum over all others", x.whirlAt(3), 32);
        Due.same("enter(1000)", x.enter(1000), 4);
        Due.same("next", x.whirlAt(4), 8);
        Due.same("enter(1000)", x.enter(1000), 5);
        Due.same("last", x.whirlAt(5), 24);
        Due.same("no cell is free", x.enter(1000), Vortexpin.NONE);
        Due.unknown("no whirl 6", () -> x.whirlAt(6));
    }

    private static void enterRefuses() {
        Vortexpin x = new Vortexpin();
        int[] wrong = {-101, 1001, Integer.MIN_VALUE, Integer.MAX_VALUE};
        for (int w : wrong) {
            Due.range("enter out of range", () -> x.enter(w));
        }
        Due.same("enter(-100)", x.enter(-100), Vortexpin.NONE);
        x.drive(-9, 0);
        for (int whirl = 0; whirl < 20; whirl++) {
            Due.same("enter(0)", x.enter(0), whirl);
            Due.same("the whirl leaves", x.step(), 1);
        }
        Due.full("a twenty-first whirl", () -> x.enter(1000));
        Due.full("a twenty-first whirl that would not enter", () -> x.enter(-100));
        for (int w : wrong) {
            Due.range("a twenty-first whirl out of range", () -> x.enter(w));
        }
        Due.same("whirlAt(19)", x.whirlAt(19), Vortexpin.NONE);
        Due.unknown("whirlAt(20)", () -> x.whirlAt(20));
    }

    /** In the first column the drive does not count; the energy is at the pressure, then 1 above it. */
    private static void enterAtThePressure() {
        int[][] cases = {{0, 0}, {1, -1}, {50, -50}};
        for (int drive = -9; drive <= 9; drive += 9) {
            for (int[] c : cases) {
                Vortexpin x = new Vortexpin();
                x.drive(drive, 30);
                x.pin(40, c[0]);
                Due.same("1 above the pressure", x.enter(c[1] - 1), Vortexpin.NONE);
                Due.same("at the pressure", x.enter(c[1]), 0);
                Due.same("where it entered", x.whirlAt(0), c[0] == 0 ? 0 : 40);
            }
        }
        Vortexpin x = new Vortexpin();
        for (int whirl = 0; whirl < 5; whirl++) {
            Due.same("enter(1000)", x.enter(1000), whirl);
        }
        int last = freeEntry(x, 5);
        int energy = 0;
        for (int whirl = 0; whirl < 5; whirl++) {
            int rows = Math.abs(x.whirlAt(whirl) - last) / 8;
            energy += rows == 1 ? 12 : rows == 2 ? 6 : rows == 3 ? 2 : 0;
        }
        Due.same("1 above the pressure, one cell free", x.enter(energy - 1), Vortexpin.NONE);
        Due.same("at the pressure, one cell free", x.enter(energy), 5);
        Due.same("in the one free cell", x.whirlAt(5), last);
        Due.same("no cell is free, at the greatest pressure", x.enter(1000), Vortexpin.NONE);
        Due.unknown("none has entered", () -> x.whirlAt(6));
    }

    private static int freeEntry(Vortexpin x, int whirls) {
        for (int cell = 0; cell < 48; cell += 8) {
            boolean free = true;
            for (int whirl = 0; whirl < whirls; whirl++) {
                free &= x.whirlAt(whirl) != cell;
            }
            if (free) {
                return cell;
            }
        }
        return Vortexpin.NONE;
    }

    private static void energies() {
        int[][] apart = {{0, 8, 12}, {0, 16, 6}, {0, 24, 2}, {0, 32, 0}, {0, 9, 6}, {1, 0, 12}, {2, 0, 6},
            {3, 0, 2}, {4, 0, 0}, {0, 10, 2}, {0, 17, 2}, {0, 18, 0}, {7, 8, 0}, {11, 4, 6}, {11, 3, 12}, {47, 0, 0}, {47, 38, 6}};
        for (int[] a : apart) {
            Vortexpin x = new Vortexpin();
            lead(x, a[0]);
            x.pin(a[0], 50);
            int second = lead(x, a[1]);
            x.pin(a[0], 0);
            Due.same("energy of the first", x.energy(0), a[2]);
            Due.same("energy of the second", x.energy(second), a[2]);
        }
        Vortexpin x = new Vortexpin();
        for (int whirl = 0; whirl < 6; whirl++) {
            x.enter(1000);
        }
        x.drive(0, 30);
        Due.same("energy in row 0", x.energy(0), 20);
        x.pin(0, 50);
        Due.same("less the depth", x.energy(0), -30);
    }

    private static void firstSideOfEqualOnes() {
        int[] sides = {19 - 8, 20, 19 + 8, 18};
        for (int first = 0; first < 4; first++) {
            Vortexpin x = withWhirlAt(19);
            for (int side = first; side < 4; side++) {
                x.pin(sides[side], 5);
            }
            Due.same("step", x.step(), 1);
            Due.same("the first of the equal ones", x.whirlAt(0), sides[first]);
        }
    }

    private static void goesToTheLeast() {
        int[] sides = {19 - 8, 20, 19 + 8, 18};
        for (int least = 0; least < 4; least++) {
            Vortexpin x = withWhirlAt(19);
            for (int side = 0; side < 4; side++) {
                x.pin(sides[side], side == least ? 6 : 5);
            }
            Due.same("step", x.step(), 1);
            Due.same("the least", x.whirlAt(0), sides[least]);
        }
        Vortexpin x = withWhirlAt(19);
        x.pin(19, 5);
        for (int side = 0; side < 4; side++) {
            x.pin(sides[side], 5);
        }
        Due.same("none is below its own", x.step(), 0);
        x.pin(10, 50);
        Due.same("none beside it at a corner", x.step(), 0);
        Due.same("it stays", x.whirlAt(0), 19);
    }

    private static void staysAtTheEdges() {
        int[] corners = {0, 7, 40, 47};
        for (int corner : corners) {
            Vortexpin x = withWhirlAt(corner);
            for (int cell = 0; cell < 48; cell++) {
                int apart = Math.abs(cell % 8 - corner % 8) + Math.abs(cell / 8 - corner / 8);
                x.pin(cell, apart > 1 ? 50 : 0);
            }
            Due.same("no cell beside the corner draws it", x.step(), 0);
            Due.same("it stays at its corner", x.whirlAt(0), corner);
        }
        int[][] toEdges = {{8, 0}, {15, 7}, {32, 40}, {39, 47}, {1, 0}, {41, 40}, {6, 7}, {46, 47}};
        for (int[] e : toEdges) {
            Vortexpin x = withWhirlAt(e[0]);
            x.pin(e[1], 1);
            Due.same("it goes to the edge", x.step(), 1);
            Due.same("at the edge", x.whirlAt(0), e[1]);
        }
        cornersHaveTwoSides();
        Vortexpin right = withWhirlAt(15);
        right.pin(16, 50);
        Due.same("the row behind is not beside the last column", right.step(), 0);
        Vortexpin left = withWhirlAt(16);
        left.pin(15, 50);
        Due.same("the row ahead is not beside the first column", left.step(), 0);
    }

    /** A whirl in a corner, repelled from both cells beside it, would go anywhere else. */
    private static void cornersHaveTwoSides() {
        int[][] corners = {{0, 8, 1}, {7, 15, 6}, {40, 32, 41}, {47, 46, 39}};
        for (int[] c : corners) {
            Vortexpin x = new Vortexpin();
            for (int k = 0; k < 3; k++) {
                int goal = c[0] % 8 == 0 ? c[2 - k] : c[k];
                lead(x, goal);
                x.pin(goal, 50);
            }
            x.pin(c[0], 0);
            Due.same("all stay", x.step(), 0);
            for (int whirl = 0; whirl < 3; whirl++) {
                Due.same("energy", x.energy(whirl), x.whirlAt(whirl) == c[0] ? 24 : -32);
            }
        }
    }

    private static void byNumbers() {
        Vortexpin x = new Vortexpin();
        x.pin(8, 50);
        x.enter(1000);
        x.pin(0, 50);
        x.enter(1000);
        Due.same("whirl 0", x.whirlAt(0), 8);
        Due.same("whirl 1", x.whirlAt(1), 0);
        x.pin(0, 0);
        x.pin(8, 20);
        x.pin(16, 50);
        Due.same("both move in one step", x.step(), 2);
        Due.same("the first one went ahead", x.whirlAt(0), 16);
        Due.same("the second one took its cell", x.whirlAt(1), 8);
        Vortexpin y = new Vortexpin();
        y.pin(0, 50);
        y.enter(1000);
        y.pin(8, 50);
        y.enter(1000);
        y.pin(0, 0);
        y.pin(8, 20);
        y.pin(16, 50);
        Due.same("the cell is not free yet for the first one", y.step(), 2);
        Due.same("it went elsewhere", y.whirlAt(0), 1);
        Due.same("the second one went", y.whirlAt(1), 16);
        Due.same("it is still repelled from there", y.step(), 1);
        Due.same("it went on", y.whirlAt(0), 2);
    }

    private static void leaves() {
        int[][] edges = {{7, 3}, {7 + 8, 3}, {47, 3}, {0, -3}, {24, -3}, {40, -3}};
        for (int[] e : edges) {
            Vortexpin x = withWhirlAt(e[0]);
            x.pin(e[0], 8);
            x.drive(e[1], 5);
            Due.same("as deep as drive and heat: none leaves", x.step(), 0);
            x.pin(e[0], 7);
            Due.same("less deep: it leaves", x.step(), 1);
            Due.same("it has left", x.whirlAt(0), Vortexpin.NONE);
            Due.same("nobody is there", x.step(), 0);
        }
        for (int cell : new int[] {0, 7, 40, 47}) {
            Vortexpin x = withWhirlAt(cell);
            x.drive(0, 30);
            Due.same("without a drive none leaves", x.step(), 0);
        }
        Vortexpin wrong = withWhirlAt(0);
        wrong.drive(9, 30);
        wrong.step();
        Due.same("the drive points to the other column", wrong.whirlAt(0), 1);
        Vortexpin ahead = withWhirlAt(7);
        ahead.pin(15, 50);
        ahead.drive(1, 0);
        Due.same("it leaves ahead of going", ahead.step(), 1);
        Due.same("it has left", ahead.whirlAt(0), Vortexpin.NONE);
        Vortexpin deep = withWhirlAt(7);
        deep.pin(7, 1);
        deep.pin(15, 50);
        deep.drive(1, 0);
        Due.same("too deep to leave, it goes", deep.step(), 1);
        Due.same("below", deep.whirlAt(0), 15);
        leftOnesCountNoMore();
    }

    private static void leavesFromTheLastColumnAlone() {
        int[][] ways = {{6, 1, 7}, {41, -1, 40}, {1, -9, 0}, {46, 9, 47}};
        for (int[] w : ways) {
            Vortexpin x = withWhirlAt(w[0]);
            x.drive(w[1], 30);
            Due.same("1 ahead of the last column it goes", x.step(), 1);
            Due.same("to the last column", x.whirlAt(0), w[2]);
            Due.same("from the last column it leaves", x.step(), 1);
            Due.same("it has left", x.whirlAt(0), Vortexpin.NONE);
        }
    }

    private static void leavesBelowDriveAndHeat() {
        int[][] sums = {{9, 30}, {9, 0}, {1, 0}, {1, 30}, {5, 7}};
        for (int[] s : sums) {
            for (int sign = -1; sign < 2; sign += 2) {
                int cell = sign > 0 ? 39 : 32;
                Vortexpin x = withWhirlAt(cell);
                x.drive(sign * s[0], s[1]);
                x.pin(cell, s[0] + s[1]);
                Due.same("a depth at drive and heat holds", x.step(), 0);
                Due.same("it is still there", x.whirlAt(0), cell);
                x.pin(cell, s[0] + s[1] - 1);
                Due.same("a depth 1 below drive and heat does not", x.step(), 1);
                Due.same("it is there no more", x.whirlAt(0), Vortexpin.NONE);
            }
        }
    }

    private static void leftOnesCountNoMore() {
        Vortexpin x = new Vortexpin();
        x.pin(0, 5);
        x.enter(1000);
        x.pin(8, 50);
        x.enter(1000);
        x.pin(0, 0);
        Due.same("repelled", x.energy(1), -38);
        x.drive(-1, 0);
        Due.same("the first one leaves", x.step(), 1);
        Due.same("energy of one that left", x.energy(0), 0);
        Due.same("no more repelled", x.energy(1), -50);
        Due.same("its cell is free", x.enter(12), 2);
        Due.same("entered at the least", x.whirlAt(2), 40);
    }

    private static void creeps() {
        int[][] ways = {{19, 2, 20}, {19, -2, 18}};
        for (int[] w : ways) {
            Vortexpin x = withWhirlAt(w[0]);
            x.pin(w[0], 10);
            x.drive(w[1], 7);
            Due.same("8 more is above the heat", x.step(), 0);
            x.drive(w[1], 8);
            Due.same("8 more is at most the heat", x.step(), 1);
            Due.same("it crept", x.whirlAt(0), w[2]);
        }
        Vortexpin none = withWhirlAt(19);
        none.drive(0, 30);
        Due.same("without a drive none creeps", none.step(), 0);
        Vortexpin right = withWhirlAt(7);
        right.pin(7, 50);
        right.drive(9, 30);
        Due.same("no cell to the right", right.step(), 0);
        Vortexpin left = withWhirlAt(8);
        left.pin(8, 50);
        left.drive(-9, 30);
        Due.same("no cell to the left", left.step(), 0);
        Vortexpin taken = withWhirlAt(20);
        taken.pin(20, 50);
        lead(taken, 19);
        taken.pin(19, 50);
        taken.drive(9, 0);
        Due.same("the cell is not free", taken.step(), 0);
        taken.drive(9, 30);
        taken.pin(20, 40);
        taken.pin(21, 1);
        Due.same("only the one ahead creeps, and the other behind it", taken.step(), 2);
        Due.same("the one ahead", taken.whirlAt(0), 21);
        Due.same("the one behind", taken.whirlAt(1), 20);
    }

    private static void creepsAtMostAtTheHeat() {
        int[] heats = {0, 1, 29, 30};
        for (int heat : heats) {
            for (int drive = -1; drive < 2; drive += 2) {
                Vortexpin x = withWhirlAt(19);
                x.drive(drive, heat);
                x.pin(19, heat + 2);
                Due.same("1 above the heat it stays", x.step(), 0);
                Due.same("where it was", x.whirlAt(0), 19);
                x.pin(19, heat + 1);
                Due.same("at the heat it creeps", x.step(), 1);
                Due.same("by the drive", x.whirlAt(0), 19 + drive);
            }
        }
    }

    /** The cells that come next by number, behind the end of a row, draw a whirl that may not creep there. */
    private static void creepsToNoCellOffTheFilm() {
        int[][] ends = {{7, 8, 1}, {39, 40, 1}, {47, 40, 1}, {8, 7, -1}, {40, 39, -1}, {0, 7, -1}};
        for (int[] e : ends) {
            Vortexpin x = withWhirlAt(e[0]);
            x.pin(e[0], 10);
            x.pin(e[1], 50);
            x.drive(e[2], 5);
            Due.same("no cell there to creep to", x.step(), 0);
            Due.same("it is at the end of its row", x.whirlAt(0), e[0]);
        }
    }

    private static void creepsToNoTakenCell() {
        int[] drives = {1, -1};
        for (int drive : drives) {
            Vortexpin x = new Vortexpin();
            lead(x, 20);
            x.pin(20, 50);
            lead(x, 19);
            x.pin(19, 50);
            x.drive(drive, 11);
            Due.same("both are held, one by the other", x.step(), 0);
            Due.same("the first one", x.whirlAt(0), 20);
            Due.same("the second one", x.whirlAt(1), 19);
        }
        Vortexpin ahead = new Vortexpin();
        lead(ahead, 19);
        ahead.pin(19, 50);
        lead(ahead, 11);
        Due.same("12 from the one below", ahead.energy(1), 12);
        ahead.pin(11, 20);
        ahead.pin(10, 25);
        ahead.pin(12, 25);
        Due.same("a taken cell of the least energy is not gone to", ahead.step(), 1);
        Due.same("the first of the free ones is", ahead.whirlAt(1), 12);
    }

    private static void oneWhirlInACell() {
        int[][] drives = {{0, 0}, {9, 30}, {-9, 30}, {1, 30}, {-1, 30}, {2, 12}};
        for (int[] d : drives) {
            Vortexpin x = new Vortexpin();
            for (int cell = 0; cell < 48; cell++) {
                x.pin(cell, 7 * cell % 51);
            }
            x.drive(d[0], d[1]);
            int whirls = 0;
            for (int turn = 0; turn < 9; turn++) {
                while (whirls < 20 && x.enter(1000) != Vortexpin.NONE) {
                    whirls++;
                }
                x.step();
                apart(x, whirls);
            }
            x.avalanche();
            apart(x, whirls);
        }
    }

    private static void apart(Vortexpin x, int whirls) {
        boolean[] taken = new boolean[48];
        for (int whirl = 0; whirl < whirls; whirl++) {
            int cell = x.whirlAt(whirl);
            if (cell != Vortexpin.NONE) {
                Due.same("another whirl in the cell of whirl " + whirl, taken[cell] ? 1 : 0, 0);
                taken[cell] = true;
            }
        }
    }

    /** Two whirls that swing move twice a step; the one that runs out moves 8 times, the 60 steps go on. */
    private static void avalancheOfSixtySteps() {
        Vortexpin x = new Vortexpin();
        lead(x, 3);
        x.pin(3, 10);
        lead(x, 43);
        x.pin(43, 10);
        x.drive(1, 30);
        Due.same("both to and fro, 60 steps", x.avalanche(), 120);
        Due.same("the first one, as 60 is even", x.whirlAt(0), 3);
        Due.same("the second one, as 60 is even", x.whirlAt(1), 43);
        lead(x, 24);
        x.drive(1, 30);
        Due.same("one more runs out and leaves", x.avalanche(), 128);
        Due.same("it has left", x.whirlAt(2), Vortexpin.NONE);
    }

    private static void avalanches() {
        Vortexpin x = withWhirlAt(0);
        x.drive(2, 0);
        Due.same("7 to the right, and out", x.avalanche(), 8);
        Due.same("it has left", x.whirlAt(0), Vortexpin.NONE);
        Due.same("nothing is there", x.avalanche(), 0);
        Vortexpin swing = withWhirlAt(19);
        swing.pin(19, 10);
        swing.drive(1, 30);
        Due.same("to and fro, 60 steps", swing.avalanche(), 60);
        Due.same("where it was", swing.whirlAt(0), 19);
        swing.step();
        Due.same("60 steps more", swing.avalanche(), 60);
        Due.same("beside it", swing.whirlAt(0), 20);
        Vortexpin still = withWhirlAt(19);
        still.pin(21, 3);
        still.pin(20, 2);
        Due.same("two steps and a still one", still.avalanche(), 2);
        Due.same("pinned", still.whirlAt(0), 21);
        Vortexpin two = new Vortexpin();
        two.enter(1000);
        two.enter(1000);
        two.drive(9, 0);
        Due.same("both run out", two.avalanche(), 16);
    }

    private static void asksOfWhirls() {
        Vortexpin x = withWhirlAt(0);
        int[] unknown = {-1, 1, 20, Integer.MAX_VALUE, Integer.MIN_VALUE};
        for (int w : unknown) {
            Due.unknown("whirlAt of none", () -> x.whirlAt(w));
            Due.unknown("energy of none", () -> x.energy(w));
        }
        Due.same("whirlAt(0)", x.whirlAt(0), 0);
        Due.same("energy(0)", x.energy(0), 0);
        x.pin(0, 4);
        x.drive(-5, 0);
        Due.same("energy(0), pinned", x.energy(0), -4);
        x.step();
        Due.same("whirlAt(0), left", x.whirlAt(0), Vortexpin.NONE);
        Due.same("energy(0), left", x.energy(0), 0);
    }
}
