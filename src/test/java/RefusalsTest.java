/**
 * A call that is refused changes nothing: in three states, of two objects with the same calls behind them one
 * gets the refused call too, and then both are asked for all that they hold, and must answer alike. That the
 * questions would show a change is tested by calls that are not refused.
 */
public final class RefusalsTest {
    private interface Call {
        void on(Vortexpin x);
    }

    private interface Asked {
        Object of();
    }

    private interface State {
        Vortexpin made();
    }

    private interface Refusal {
        void due(String call, Due.Deed deed);
    }

    private static final Refusal RANGE = Due::range;
    private static final Refusal UNKNOWN = Due::unknown;
    private static final Refusal FULL = Due::full;

    private static String name;
    private static State state;
    private static String undisturbed;

    public static void main(String[] args) {
        inState("bare", Vortexpin::new);
        refusedAnywhere();
        refusedNumbers(0, 0, 0, 0, 0);
        inState("some", RefusalsTest::some);
        refusedAnywhere();
        refusedNumbers(2, 4, 2, 5, 2);
        refusedOfWhatIsThere();
        inState("full", RefusalsTest::full);
        refusedAnywhere();
        refusedNumbers(8, 20, 6, 60, 8);
        refusedOfWhatIsThere();
        refusedAsThereAreEnough();
        inState("some", RefusalsTest::some);
        changesShow();
        Due.close();
    }

    private static void inState(String called, State of) {
        name = called;
        state = of;
        undisturbed = allOf(of.made());
    }

    private static void refused(String call, Refusal refusal, Call deed) {
        Vortexpin x = state.made();
        String what = call + ", in state " + name;
        refusal.due(what, () -> deed.on(x));
        Due.sameText("all behind " + what, allOf(x), undisturbed);
    }

    private static void refusedAnywhere() {
        int[][] samples = {{0, 5, 5}, {201, 5, 5}, {5, 0, 5}, {5, 1001, 5}, {5, 5, 0}, {5, 5, 1001}};
        for (int[] w : samples) {
            refused("sample", RANGE, x -> x.sample(w[0], w[1], w[2]));
        }
        int[] sides = {-1, 48};
        for (int w : sides) {
            refused("pin: cell", UNKNOWN, x -> x.pin(w, 5));
        }
        int[][] depths = {{0, -1}, {0, 51}, {47, -1}, {47, 51}};
        for (int[] w : depths) {
            refused("pin: depth", RANGE, x -> x.pin(w[0], w[1]));
        }
        int[][] drives = {{-10, 5}, {10, 5}, {5, -1}, {5, 31}};
        for (int[] w : drives) {
            refused("drive", RANGE, x -> x.drive(w[0], w[1]));
        }
        int[] pressures = {-101, 1001};
        for (int w : pressures) {
            refused("enter", RANGE, x -> x.enter(w));
        }
        int[][] rings = {{0, 100}, {101, 100}, {5, 49}, {5, 1001}};
        for (int[] w : rings) {
            refused("ring", RANGE, x -> x.ring(w[0], w[1]));
        }
        refusedOfCoilAndCounter();
        int[][] points = {{-1, 5, 5}, {301, 5, 5}, {5, -1001, 5}, {5, 1001, 5}, {5, 5, -1000001}, {5, 5, 1000001}};
        for (int[] w : points) {
            refused("point", RANGE, x -> x.point(w[0], w[1], w[2]));
        }
    }

    private static void refusedOfCoilAndCounter() {
        int[] currents = {-1, 1001};
        for (int w : currents) {
            refused("current", RANGE, x -> x.current(w));
        }
        int[] parts = {-1, 12};
        for (int w : parts) {
            refused("heat: part", UNKNOWN, x -> x.heat(w, 5));
            refused("warmth", UNKNOWN, x -> x.warmth(w));
        }
        int[][] more = {{0, 0}, {0, 501}, {11, 0}, {11, 501}};
        for (int[] w : more) {
            refused("heat: more", RANGE, x -> x.heat(w[0], w[1]));
        }
        int[] pulses = {0, 51, -1};
        for (int w : pulses) {
            refused("pass", RANGE, x -> x.pass(w));
        }
        int[] asked = {-1, 6};
        for (int w : asked) {
            refused("ofCoil", RANGE, x -> x.ofCoil(w));
        }
        int[][] margins = {{-1, 5}, {1001, 1001}, {5, 4}, {5, 1001}};
        for (int[] w : margins) {
            refused("margins", RANGE, x -> x.margins(w[0], w[1]));
        }
        int[][] counted = {{0, 500}, {1001, 500}, {500, -1}, {500, 1001}};
        for (int[] w : counted) {
            refused("pulse", RANGE, x -> x.pulse(w[0], w[1]));
        }
        int[] bits = {-1, 16};
        for (int w : bits) {
            refused("bit", UNKNOWN, x -> x.bit(w));
        }
    }

    /** The numbers just ahead of the first and behind the last thing of each sort. */
    private static void refusedNumbers(int samples, int whirls, int rings, int points, int claims) {
        for (int w : new int[] {-1, samples}) {
            refused("set: sample", UNKNOWN, x -> x.set(w, 5, 5));
            refused("deep", UNKNOWN, x -> x.deep(w));
        }
        for (int w : new int[] {-1, whirls}) {
            refused("whirlAt", UNKNOWN, x -> x.whirlAt(w));
            refused("energy", UNKNOWN, x -> x.energy(w));
        }
        for (int w : new int[] {-1, rings}) {
            refused("flux: ring", UNKNOWN, x -> x.flux(w, 5));
            refused("warm", UNKNOWN, x -> x.warm(w));
            refused("ofRing: ring", UNKNOWN, x -> x.ofRing(w, 0));
        }
        for (int w : new int[] {-1, points}) {
            refused("claim: from", UNKNOWN, x -> x.claim(30, w, points - 1));
            refused("claim: to", UNKNOWN, x -> x.claim(30, 0, w));
        }
        for (int w : new int[] {-1, claims}) {
            refused("repeats: claim", UNKNOWN, x -> x.repeats(w, 0, true));
            refused("judge: claim", UNKNOWN, x -> x.judge(w, 5));
        }
    }

    private static void refusedOfWhatIsThere() {
        int[][] set = {{-1, 5}, {301, 5}, {5, -1001}, {5, 1001}};
        for (int[] w : set) {
            refused("set", RANGE, x -> x.set(0, w[0], w[1]));
        }
        for (int w : new int[] {-1000001, 1000001}) {
            refused("flux", RANGE, x -> x.flux(0, w));
        }
        for (int w : new int[] {-1, 3}) {
            refused("ofRing: what", RANGE, x -> x.ofRing(0, w));
        }
        int[][] claims = {{0, 0, 4}, {301, 0, 4}, {30, 1, 0}};
        for (int[] w : claims) {
            refused("claim", RANGE, x -> x.claim(w[0], w[1], w[2]));
        }
        for (int w : new int[] {-1, 7}) {
            refused("repeats: house, did", UNKNOWN, x -> x.repeats(0, w, true));
            refused("repeats: house, did not", UNKNOWN, x -> x.repeats(0, w, false));
        }
        for (int w : new int[] {-1, 1000001}) {
            refused("judge: noise", RANGE, x -> x.judge(0, w));
        }
    }

    private static void refusedAsThereAreEnough() {
        refused("a ninth sample", FULL, x -> x.sample(5, 5, 5));
        refused("a twenty-first whirl", FULL, x -> x.enter(1000));
        refused("a twenty-first whirl that would not enter", FULL, x -> x.enter(-100));
        refused("a seventh ring", FULL, x -> x.ring(5, 50));
        refused("a sixty-first point", FULL, x -> x.point(5, 5, 5));
        refused("a ninth claim", FULL, x -> x.claim(30, 0, 59));
    }

    private static void changes(String call, Call deed) {
        Vortexpin x = state.made();
        deed.on(x);
        Due.same("the questions show " + call, allOf(x).equals(undisturbed) ? 0 : 1, 1);
    }

    private static void changesShow() {
        changes("a sample", x -> x.sample(5, 5, 5));
        changes("a temperature", x -> x.set(0, 51, 37));
        changes("a depth", x -> x.pin(30, 1));
        changes("a drive", x -> x.drive(3, 7));
        changes("more heat", x -> x.drive(2, 8));
        changes("less heat", x -> x.drive(2, 6));
        changes("a whirl", x -> x.enter(1000));
        changes("a step", x -> x.step());
        changes("an avalanche", x -> x.avalanche());
        changes("a ring", x -> x.ring(5, 50));
        changes("a flux", x -> x.flux(0, 12346));
        changes("a warmed ring", x -> x.warm(1));
        changes("a current", x -> x.current(101));
        changes("the same current, told again", x -> x.current(100));
        changes("a heated part", x -> x.heat(11, 1));
        changes("a pulse of time", x -> x.pass(1));
        changes("a lower margin", x -> x.margins(311, 690));
        changes("an upper margin", x -> x.margins(310, 691));
        changes("a pulse", x -> x.pulse(5, 500));
        changes("a point", x -> x.point(20, 5, 5));
        changes("a claim", x -> x.claim(30, 0, 4));
        changes("a house that did", x -> x.repeats(0, 6, true));
        changes("a house that did not", x -> x.repeats(0, 6, false));
    }

    /** Some of each; a whirl that runs, one that just creeps, one that just does not; two pulses with doubt in a row. */
    private static Vortexpin some() {
        Vortexpin x = new Vortexpin();
        x.sample(100, 50, 200);
        x.sample(90, 60, 30);
        x.set(0, 50, 37);
        x.set(1, 30, -10);
        x.drive(-1, 0);
        x.enter(1000);
        x.step();
        x.drive(2, 7);
        entersAt(x, 16, 0);
        for (int k = 0; k < 4; k++) {
            x.step();
        }
        entersAt(x, 0, 9);
        entersAt(x, 40, 10);
        x.ring(1, 100);
        x.flux(0, 12345);
        x.ring(20, 100);
        x.flux(1, 1900);
        x.current(100);
        x.heat(1, 500);
        x.heat(1, 500);
        x.pass(2);
        countAndClaim(x);
        return x;
    }

    private static void entersAt(Vortexpin x, int cell, int depth) {
        x.pin(cell, 50);
        x.enter(1000);
        x.pin(cell, depth);
    }

    private static void countAndClaim(Vortexpin x) {
        x.margins(310, 690);
        x.pulse(5, 500);
        x.pulse(5, 1000);
        x.point(20, 5, 100);
        x.point(20, -5, 104);
        x.point(20, 7, 0);
        x.point(20, -7, 0);
        x.point(40, 0, 0);
        x.claim(30, 0, 3);
        x.claim(30, 0, 4);
        x.repeats(0, 0, true);
        x.repeats(0, 1, true);
        x.repeats(0, 2, false);
    }

    /** As many of each as there may be; six whirls are still there, of which one may just leave; the coil is dumped. */
    private static Vortexpin full() {
        Vortexpin x = new Vortexpin();
        for (int k = 0; k < 8; k++) {
            x.sample(100 + k, 50, 200);
            x.set(k, 50, 37);
        }
        x.drive(-9, 30);
        for (int k = 0; k < 14; k++) {
            x.enter(1000);
            x.step();
        }
        x.drive(0, 0);
        for (int k = 0; k < 6; k++) {
            x.enter(1000);
            x.pin(8 * k, 5 + k);
        }
        x.drive(-3, 4);
        for (int k = 0; k < 6; k++) {
            x.ring(1 + k, 100);
            x.flux(k, 12345);
        }
        x.current(800);
        for (int part = 0; part < 3; part++) {
            x.heat(part, 100);
        }
        x.pass(5);
        countAndClaim(x);
        for (int k = 5; k < 60; k++) {
            x.point(20, 0, k);
        }
        for (int k = 2; k < 8; k++) {
            x.claim(30, 0, 59);
            x.repeats(k, k % 7, k % 2 == 0);
        }
        return x;
    }

    /** All that an object holds, as it answers: first what can be asked alone, then what only further calls show. */
    private static String allOf(Vortexpin x) {
        StringBuilder all = new StringBuilder();
        for (int k = 0; k < 20; k++) {
            int number = k;
            tell(all, "whirlAt " + k, () -> x.whirlAt(number));
            tell(all, "energy " + k, () -> x.energy(number));
        }
        for (int k = 0; k < 8; k++) {
            int number = k;
            tell(all, "deep " + k, () -> x.deep(number));
            tell(all, "judge " + k, () -> x.judge(number, 2));
            tell(all, "bits " + k, () -> x.bit(2 * number) + 2 * x.bit(2 * number + 1));
        }
        for (int k = 0; k < 18; k++) {
            int number = k;
            tell(all, "ofRing " + k, () -> x.ofRing(number / 3, number % 3));
        }
        for (int k = 0; k < 12; k++) {
            int number = k;
            tell(all, "warmth " + k, () -> x.warmth(number));
            tell(all, "ofCoil " + k, () -> x.ofCoil(number));
        }
        tell(all, "share", () -> x.share());
        matterBehind(x, all);
        coilBehind(x, all);
        countsBehind(x, all);
        return all.toString();
    }

    private static void matterBehind(Vortexpin x, StringBuilder all) {
        tell(all, "step", () -> x.step());
        for (int k = 0; k < 20; k++) {
            int number = k;
            tell(all, "whirlAt " + k + " then", () -> x.whirlAt(number));
        }
        for (int k = 0; k < 48; k++) {
            int number = k;
            tell(all, "pin " + k, () -> x.pin(number, 0));
        }
        tell(all, "enter", () -> x.enter(1000));
        for (int k = 0; k < 6; k++) {
            int number = k;
            tell(all, "flux " + k, () -> x.flux(number, 4321));
            tell(all, "warm " + k, () -> x.warm(number));
        }
        for (int k = 0; k < 8; k++) {
            int number = k;
            tell(all, "set " + k, () -> x.set(number, 50, 150));
        }
        tell(all, "ring", () -> x.ring(5, 50));
        tell(all, "sample", () -> x.sample(5, 5, 5));
    }

    private static void coilBehind(Vortexpin x, StringBuilder all) {
        for (int k = 0; k < 4; k++) {
            tell(all, "pass", () -> x.pass(1));
            tell(all, "dumped", () -> x.ofCoil(2));
            tell(all, "to the wire", () -> x.ofCoil(3));
        }
        tell(all, "current", () -> x.current(5));
    }

    private static void countsBehind(Vortexpin x, StringBuilder all) {
        int[] biases = {4, 5, 299, 300, 309, 310, 690, 691, 700, 701};
        for (int bias : biases) {
            tell(all, "pulse " + bias, () -> x.pulse(5, bias));
        }
        for (int k = 0; k < 8; k++) {
            int number = k;
            tell(all, "repeats " + k, () -> x.repeats(number, 5, true));
            tell(all, "judge " + k + " then", () -> x.judge(number, 2));
        }
        tell(all, "point", () -> x.point(5, 5, 5));
        tell(all, "claim", () -> x.claim(30, 0, 0));
    }

    private static void tell(StringBuilder all, String what, Asked asked) {
        String answer;
        try {
            answer = "" + asked.of();
        } catch (IllegalArgumentException | IllegalStateException | IndexOutOfBoundsException e) {
            answer = e.getClass().getSimpleName();
        }
        all.append(what).append(": ").append(answer).append("; ");
    }
}
