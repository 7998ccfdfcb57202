import java.util.ArrayList;

public final class Vortexpin {
    public static final int NONE = -1;
    public static final int NORMAL = 0, MIXED = 1, MEISSNER = 2;
    public static final int THIN = 0, OPEN = 1, UNTOLD = 2, REFUSED = 3, PASSED = 4;

    private static final int SAMPLES_MOST = 8;
    private static final int RINGS_MOST = 6;
    private static final int POINTS_MOST = 60;
    private static final int CLAIMS_MOST = 8;

    private final ArrayList<Sample> samples;
    private final Film film;
    private final ArrayList<Ring> rings;
    private final Coil coil;
    private final Counter counter;
    private final ArrayList<Point> points;
    private final ArrayList<Claim> claims;

    public Vortexpin() {
        samples = new ArrayList<Sample>();
        film = new Film();
        rings = new ArrayList<Ring>();
        coil = new Coil();
        counter = new Counter();
        points = new ArrayList<Point>();
        claims = new ArrayList<Claim>();
    }

    // ---- samples

    public int sample(int critical, int lower, int upper) throws IllegalArgumentException, IllegalStateException {
        refuseOutside(critical, 1, 200);
        refuseOutside(lower, 1, 1000);
        refuseOutside(upper, 1, 1000);
        refuseFull(samples.size(), SAMPLES_MOST);
        samples.add(new Sample(critical, lower, upper));
        return samples.size() - 1;
    }

    public int set(int sample, int temperature, int field) throws IndexOutOfBoundsException, IllegalArgumentException {
        refuseUnknown(sample, samples.size());
        refuseOutside(temperature, 0, 300);
        refuseOutside(field, -1000, 1000);
        Sample told = samples.get(sample);
        told.temperature = temperature;
        told.field = field;
        return told.phase();
    }

    public double deep(int sample) throws IndexOutOfBoundsException {
        refuseUnknown(sample, samples.size());
        return samples.get(sample).penetration();
    }

    // ---- the film

    public int pin(int cell, int depth) throws IndexOutOfBoundsException, IllegalArgumentException {
        refuseUnknown(cell, Film.CELLS);
        refuseOutside(depth, 0, 50);
        int before = film.depths[cell];
        film.depths[cell] = depth;
        return before;
    }

    public void drive(int drive, int heat) throws IllegalArgumentException {
        refuseOutside(drive, -9, 9);
        refuseOutside(heat, 0, 30);
        film.drive = drive;
        film.heat = heat;
    }

    public int enter(int pressure) throws IllegalArgumentException, IllegalStateException {
        refuseOutside(pressure, -100, 1000);
        refuseFull(film.entered, Film.WHIRLS_MOST);
        int whirl = film.entered;
        int cell = film.calmestEntry(whirl);
        if (cell == NONE || film.energyAt(whirl, cell) > pressure) {
            return NONE;
        }
        film.cells[whirl] = cell;
        film.entered++;
        return whirl;
    }

    public int step() {
        return film.runStep();
    }

    public int avalanche() {
        int all = 0;
        for (int done = 0; done < Film.STEPS_MOST; done++) {
            int moved = film.runStep();
            if (moved == 0) {
                break;
            }
            all += moved;
        }
        return all;
    }

    public int whirlAt(int whirl) throws IndexOutOfBoundsException {
        refuseUnknown(whirl, film.entered);
        return film.cellOf(whirl);
    }

    public int energy(int whirl) throws IndexOutOfBoundsException {
        refuseUnknown(whirl, film.entered);
        int cell = film.cellOf(whirl);
        return cell == NONE ? 0 : film.energyAt(whirl, cell);
    }

    // ---- rings

    public int ring(int inductance, int critical) throws IllegalArgumentException, IllegalStateException {
        refuseOutside(inductance, 1, 100);
        refuseOutside(critical, 50, 1000);
        refuseFull(rings.size(), RINGS_MOST);
        rings.add(new Ring(inductance, critical));
        return rings.size() - 1;
    }

    public int flux(int ring, int flux) throws IndexOutOfBoundsException, IllegalArgumentException {
        refuseUnknown(ring, rings.size());
        refuseOutside(flux, -1000000, 1000000);
        Ring told = rings.get(ring);
        told.flux = flux;
        return told.settle();
    }

    public int warm(int ring) throws IndexOutOfBoundsException {
        refuseUnknown(ring, rings.size());
        Ring warmed = rings.get(ring);
        warmed.number = warmed.nearestNumber();
        return warmed.number;
    }

    public int ofRing(int ring, int what) throws IndexOutOfBoundsException, IllegalArgumentException {
        refuseUnknown(ring, rings.size());
        refuseOutside(what, 0, 2);
        Ring asked = rings.get(ring);
        switch (what) {
            case 0:
                return asked.number;
            case 1:
                return asked.currentWith(asked.number);
            default:
                return asked.slips;
        }
    }

    // ---- the coil

    public int current(int current) throws IllegalArgumentException {
        refuseOutside(current, 0, 1000);
        int before = coil.current;
        coil.current = current;
        coil.dumped = false;
        coil.doubtfulInRow = 0;
        return before;
    }

    public int heat(int part, int more) throws IndexOutOfBoundsException, IllegalArgumentException {
        refuseUnknown(part, Coil.PARTS);
        refuseOutside(more, 1, 500);
        coil.warmths[part] = Math.min(Coil.WARMTH_MOST, coil.warmths[part] + more);
        return coil.warmths[part];
    }

    public int pass(int pulses) throws IllegalArgumentException {
        refuseOutside(pulses, 1, 50);
        for (int done = 0; done < pulses; done++) {
            coil.runPulse();
        }
        return coil.current;
    }

    public int warmth(int part) throws IndexOutOfBoundsException {
        refuseUnknown(part, Coil.PARTS);
        return coil.warmths[part];
    }

    public long ofCoil(int what) throws IllegalArgumentException {
        refuseOutside(what, 0, 5);
        switch (what) {
            case 0:
                return coil.normalParts(0, Coil.PARTS);
            case 1:
                return coil.doubt();
            case 2:
                return coil.dumped ? 1 : 0;
            case 3:
                return coil.toWire;
            case 4:
                return coil.toDump;
            default:
                return coil.stored();
        }
    }

    public double share() {
        long both = coil.toWire + coil.toDump;
        return both == 0 ? 0.0 : (double) coil.toWire / (double) both;
    }

    // ---- counters

    public void margins(int lower, int upper) throws IllegalArgumentException {
        refuseOutside(lower, 0, 1000);
        refuseOutside(upper, lower, 1000);
        counter.lower = lower;
        counter.upper = upper;
    }

    public int pulse(int behind, int bias) throws IllegalArgumentException {
        refuseOutside(behind, 1, 1000);
        refuseOutside(bias, 0, 1000);
        return counter.take(behind, bias);
    }

    public int bit(int bit) throws IndexOutOfBoundsException {
        refuseUnknown(bit, Counter.BITS);
        return counter.count >> bit & 1;
    }

    // ---- claims

    public int point(int temperature, int current, int voltage) throws IllegalArgumentException, IllegalStateException {
        refuseOutside(temperature, 0, 300);
        refuseOutside(current, -1000, 1000);
        refuseOutside(voltage, -1000000, 1000000);
        refuseFull(points.size(), POINTS_MOST);
        points.add(new Point(temperature, current, voltage));
        return points.size();
    }

    public int claim(int temperature, int from, int to) throws IndexOutOfBoundsException, IllegalArgumentException, IllegalStateException {
        refuseUnknown(from, points.size());
        refuseUnknown(to, points.size());
        refuseOutside(temperature, 1, 300);
        refuseOutside(to, from, points.size() - 1);
        refuseFull(claims.size(), CLAIMS_MOST);
        claims.add(new Claim(temperature, from, to, points.size()));
        return claims.size() - 1;
    }

    public int repeats(int claim, int house, boolean did) throws IndexOutOfBoundsException {
        refuseUnknown(claim, claims.size());
        refuseUnknown(house, Claim.HOUSES);
        Claim told = claims.get(claim);
        told.words[house] = did ? Claim.DID : Claim.DID_NOT;
        return told.housesThat(Claim.DID);
    }

    public int judge(int claim, int noise) throws IndexOutOfBoundsException, IllegalArgumentException {
        refuseUnknown(claim, claims.size());
        refuseOutside(noise, 0, 1000000);
        return claims.get(claim).verdict(points, noise);
    }

    // ---- refusals

    private static void refuseOutside(int value, int least, int most) {
        if (value < least || value > most) {
            throw new IllegalArgumentException("out of range");
        }
    }

    private static void refuseUnknown(int index, int count) {
        if (index < 0 || index >= count) {
            throw new IndexOutOfBoundsException("no such number");
        }
    }

    private static void refuseFull(int count, int most) {
        if (count >= most) {
            throw new IllegalStateException("no room for more");
        }
    }

    private static final class Sample {
        final int critical;
        final int lower;
        final int upper;
        int temperature;
        int field;

        Sample(int critical, int lower, int upper) {
            this.critical = critical;
            this.lower = lower;
            this.upper = upper;
        }

        int phase() {
            boolean kindOne = lower >= upper;
            int strength = Math.abs(field);
            if (temperature >= critical || strength >= boundOf(kindOne ? lower : upper)) {
                return NORMAL;
            }
            return !kindOne && strength >= boundOf(lower) ? MIXED : MEISSNER;
        }

        // No sample is critical at 0: that is looked at here, and below, for the divisor's sake alone.
        private int boundOf(int whole) {
            int square = critical * critical;
            return square == 0 ? 0 : whole * (square - temperature * temperature) / square;
        }

        double penetration() {
            if (temperature >= critical || critical == 0) {
                return 0.0;
            }
            double x = (double) temperature / (double) critical;
            double y = x * x;
            return 100.0 / (1.0 - y * y);
        }
    }

    private static final class Film {
        static final int COLUMNS = 8;
        static final int ROWS = 6;
        static final int CELLS = COLUMNS * ROWS;
        static final int WHIRLS_MOST = 20;
        static final int STEPS_MOST = 60;
        // In the order in which a whirl looks at the cells beside it.
        static final int ABOVE = 0, RIGHT = 1, BELOW = 2, LEFT = 3, SIDES = 4;

        final int[] depths;
        // Where each whirl is; NONE for those that have left and those still to come.
        final int[] cells;
        int entered;
        int drive;
        int heat;

        Film() {
            depths = new int[CELLS];
            cells = new int[WHIRLS_MOST];
            for (int whirl = 0; whirl < WHIRLS_MOST; whirl++) {
                cells[whirl] = NONE;
            }
        }

        int runStep() {
            int moved = 0;
            for (int whirl = 0; whirl < cells.length; whirl++) {
                int cell = cells[whirl];
                if (cell == NONE) {
                    continue;
                }
                if (leavesFrom(cell)) {
                    cells[whirl] = NONE;
                    moved++;
                } else {
                    int goal = goalFrom(whirl, cell);
                    if (goal != NONE) {
                        cells[whirl] = goal;
                        moved++;
                    }
                }
            }
            return moved;
        }

        private boolean leavesFrom(int cell) {
            int edge = drive > 0 ? COLUMNS - 1 : 0;
            return drive != 0 && cell % COLUMNS == edge && depthOf(cell) < Math.abs(drive) + heat;
        }

        private int goalFrom(int whirl, int cell) {
            int own = energyAt(whirl, cell);
            int calmest = calmestBeside(whirl, cell, own);
            return calmest != NONE ? calmest : creepGoal(whirl, cell, own);
        }

        private int calmestBeside(int whirl, int cell, int own) {
            int best = NONE;
            int least = own;
            for (int side = 0; side < SIDES; side++) {
                int goal = beside(cell, side);
                if (goal != NONE && isFree(goal)) {
                    int there = energyAt(whirl, goal);
                    if (there < least) {
                        least = there;
                        best = goal;
                    }
                }
            }
            return best;
        }

        private int creepGoal(int whirl, int cell, int own) {
            if (drive == 0) {
                return NONE;
            }
            int goal = beside(cell, drive > 0 ? RIGHT : LEFT);
            if (goal == NONE || !isFree(goal)) {
                return NONE;
            }
            return energyAt(whirl, goal) - own <= heat ? goal : NONE;
        }

        int calmestEntry(int whirl) {
            int best = NONE;
            int least = 0;
            for (int row = 0; row < ROWS; row++) {
                int cell = row * COLUMNS;
                if (isFree(cell)) {
                    int there = energyAt(whirl, cell);
                    if (best == NONE || there < least) {
                        least = there;
                        best = cell;
                    }
                }
            }
            return best;
        }

        int energyAt(int whirl, int cell) {
            int sum = 0;
            for (int other = 0; other < cells.length; other++) {
                if (other != whirl && cells[other] != NONE) {
                    sum += repulsion(cell, cells[other]);
                }
            }
            return sum - depthOf(cell) - drive * (cell % COLUMNS);
        }

        private static int repulsion(int one, int other) {
            int columns = Math.abs(one % COLUMNS - other % COLUMNS);
            int rows = Math.abs(one / COLUMNS - other / COLUMNS);
            switch (columns + rows) {
                case 1:
                    return 12;
                case 2:
                    return 6;
                case 3:
                    return 2;
                default:
                    return 0;
            }
        }

        private static int beside(int cell, int side) {
            int column = cell % COLUMNS;
            int row = cell / COLUMNS;
            switch (side) {
                case ABOVE:
                    return row > 0 ? cell - COLUMNS : NONE;
                case RIGHT:
                    return column < COLUMNS - 1 ? cell + 1 : NONE;
                case BELOW:
                    return row < ROWS - 1 ? cell + COLUMNS : NONE;
                default:
                    return column > 0 ? cell - 1 : NONE;
            }
        }

        private boolean isFree(int cell) {
            for (int whirl = 0; whirl < cells.length; whirl++) {
                if (cells[whirl] == cell) {
                    return false;
                }
            }
            return true;
        }

        private int depthOf(int cell) {
            return cell >= 0 && cell < depths.length ? depths[cell] : 0;
        }

        int cellOf(int whirl) {
            return whirl >= 0 && whirl < cells.length ? cells[whirl] : NONE;
        }
    }

    private static final class Ring {
        // No flux makes a ring slip even 3000 times: the bound is only there to end the loop.
        static final int SLIPS_BOUND = 1000000;

        final int inductance;
        final int critical;
        int flux;
        int number;
        int slips;

        Ring(int inductance, int critical) {
            this.inductance = inductance;
            this.critical = critical;
        }

        // No ring has an inductance of 0: that is looked at for the divisor's sake alone.
        int currentWith(int whole) {
            return inductance == 0 ? 0 : (1000 * whole - flux) / inductance;
        }

        int settle() {
            int before = number;
            for (int done = 0; done < SLIPS_BOUND; done++) {
                int current = currentWith(number);
                int next = current > 0 ? number - 1 : number + 1;
                if (Math.abs(current) <= critical || Math.abs(currentWith(next)) >= Math.abs(current)) {
                    break;
                }
                number = next;
                slips++;
            }
            return number - before;
        }

        int nearestNumber() {
            // Rounded down, not toward 0: of two numbers as near, the greater one is meant below 0 too.
            return Math.floorDiv(flux + 500, 1000);
        }
    }

    private static final class Coil {
        static final int PARTS = 12;
        static final int HALF = 6;
        static final int COLD = 4;
        static final int WARMTH_MOST = 1000;
        static final int DOUBTFUL_PULSES = 3;

        int[] warmths;
        // The row of the pulse ahead, kept to be written over in the next one.
        int[] spare;
        int current;
        boolean dumped;
        int doubtfulInRow;
        long toWire;
        long toDump;

        Coil() {
            warmths = new int[PARTS];
            spare = new int[PARTS];
            for (int part = 0; part < PARTS; part++) {
                warmths[part] = COLD;
            }
        }

        void runPulse() {
            if (dumped) {
                loseCurrent();
            }
            spreadWarmth();
            watch();
        }

        private void loseCurrent() {
            long before = stored();
            // 15 more, to round its sixteenth part up.
            current -= (current + 15) / 16;
            long lost = before - stored();
            int normal = normalParts(0, PARTS);
            int shares = normal + 20;
            // Never 0, as a count is not below 0: that is looked at for the divisor's sake alone.
            long wire = shares == 0 ? 0 : lost * normal / shares;
            toWire += wire;
            toDump += lost - wire;
        }

        private void spreadWarmth() {
            int[] ahead = warmths;
            for (int part = 0; part < ahead.length && part < spare.length; part++) {
                int own = ahead[part];
                int then = own - (own - COLD) / 16;
                if (isNormal(own)) {
                    then += current * current / 2000;
                }
                if (part > 0) {
                    then += (ahead[part - 1] - own) / 8;
                }
                if (part + 1 < ahead.length) {
                    then += (ahead[part + 1] - own) / 8;
                }
                spare[part] = Math.min(WARMTH_MOST, then);
            }
            warmths = spare;
            spare = ahead;
        }

        private void watch() {
            doubtfulInRow = Math.abs(doubt()) >= 2 ? doubtfulInRow + 1 : 0;
            if (doubtfulInRow >= DOUBTFUL_PULSES) {
                dumped = true;
            }
        }

        int doubt() {
            return normalParts(0, HALF) - normalParts(HALF, PARTS);
        }

        int normalParts(int from, int end) {
            int count = 0;
            for (int part = Math.max(0, from); part < end && part < warmths.length; part++) {
                if (isNormal(warmths[part])) {
                    count++;
                }
            }
            return count;
        }

        private boolean isNormal(int warmthOfPart) {
            return warmthOfPart >= 90 * (1000 - current) / 1000;
        }

        long stored() {
            return 50L * current * current;
        }
    }

    private static final class Counter {
        static final int BITS = 16;
        static final int TURN = 65536;
        static final int RACE = 5;

        int lower;
        int upper;
        int count;

        Counter() {
            lower = 300;
            upper = 700;
        }

        int take(int behind, int bias) {
            if (behind >= RACE && bias >= lower) {
                count = (count + (bias > upper ? 2 : 1)) % TURN;
            }
            return count;
        }
    }

    private static final class Point {
        final int temperature;
        final int current;
        final int voltage;

        Point(int temperature, int current, int voltage) {
            this.temperature = temperature;
            this.current = current;
            this.voltage = voltage;
        }

        // Asked of both orders of two points, so that a pair counts once, at its current above 0.
        boolean mirrors(Point other) {
            return current > 0 && other.current == -current && other.temperature == temperature;
        }
    }

    private static final class Claim {
        static final int HOUSES = 7;
        static final int DID = 1, DID_NOT = 2;

        final int temperature;
        final int from;
        final int to;
        final int pointsThen;
        final int[] words;

        Claim(int temperature, int from, int to, int pointsThen) {
            this.temperature = temperature;
            this.from = from;
            this.to = to;
            this.pointsThen = pointsThen;
            words = new int[HOUSES];
        }

        int housesThat(int word) {
            int count = 0;
            for (int house = 0; house < words.length; house++) {
                if (words[house] == word) {
                    count++;
                }
            }
            return count;
        }

        int verdict(ArrayList<Point> points, int noise) {
            if (5 * (to - from + 1) < 4 * pointsThen) {
                return THIN;
            }
            if (isOpen(points, noise)) {
                return OPEN;
            }
            int did = housesThat(DID);
            if (did < 2) {
                return UNTOLD;
            }
            return housesThat(DID_NOT) >= did ? REFUSED : PASSED;
        }

        private boolean isOpen(ArrayList<Point> points, int noise) {
            boolean paired = false;
            for (int one = from; one <= to && one < points.size(); one++) {
                Point ahead = points.get(one);
                if (ahead.temperature >= temperature) {
                    continue;
                }
                for (int two = from; two <= to && two < points.size(); two++) {
                    Point mirror = points.get(two);
                    if (ahead.mirrors(mirror)) {
                        paired = true;
                        if (Math.abs(ahead.voltage - mirror.voltage) > 2 * noise) {
                            return true;
                        }
                    }
                }
            }
            return !paired;
        }
    }
}
