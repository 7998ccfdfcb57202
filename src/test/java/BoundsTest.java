/**
 * The ranges behind each parameter, one line each: the least and the greatest value are taken, the ones just
 * beyond them, and those far beyond them, are refused, with the exception that the document names.
 */
public final class BoundsTest {
    private interface Call {
        void with(Vortexpin x, int value);
    }

    private interface Refusal {
        void due(String call, Due.Deed deed);
    }

    private static final Refusal RANGE = Due::range;
    private static final Refusal UNKNOWN = Due::unknown;

    public static void main(String[] args) {
        samples();
        film();
        rings();
        coil();
        counter();
        claims();
        withNothingThere();
        Due.close();
    }

    /** An object with 3 samples, 3 whirls, 3 rings, 5 points and 3 claims. */
    private static Vortexpin told() {
        Vortexpin x = new Vortexpin();
        for (int k = 0; k < 3; k++) {
            x.sample(100, 50, 200);
            x.enter(1000);
            x.ring(10, 100);
        }
        for (int k = 0; k < 5; k++) {
            x.point(20, k, k);
        }
        for (int k = 0; k < 3; k++) {
            x.claim(30, 0, 4);
        }
        return x;
    }

    private static void bounds(String what, Refusal refusal, int least, int most, Call call) {
        int[] taken = {least, most};
        for (int value : taken) {
            Due.taken(what + " " + value, () -> call.with(told(), value));
        }
        int[] beyond = {least - 1, most + 1, Integer.MIN_VALUE, Integer.MAX_VALUE};
        for (int value : beyond) {
            refusal.due(what + " " + value, () -> call.with(told(), value));
        }
    }

    private static void samples() {
        bounds("sample: critical", RANGE, 1, 200, (x, v) -> x.sample(v, 5, 5));
        bounds("sample: lower", RANGE, 1, 1000, (x, v) -> x.sample(5, v, 5));
        bounds("sample: upper", RANGE, 1, 1000, (x, v) -> x.sample(5, 5, v));
        bounds("set: sample", UNKNOWN, 0, 2, (x, v) -> x.set(v, 5, 5));
        bounds("set: temperature", RANGE, 0, 300, (x, v) -> x.set(2, v, 5));
        bounds("set: field", RANGE, -1000, 1000, (x, v) -> x.set(2, 5, v));
        bounds("deep: sample", UNKNOWN, 0, 2, (x, v) -> x.deep(v));
    }

    private static void film() {
        bounds("pin: cell", UNKNOWN, 0, 47, (x, v) -> x.pin(v, 5));
        bounds("pin: depth", RANGE, 0, 50, (x, v) -> x.pin(5, v));
        bounds("drive: drive", RANGE, -9, 9, (x, v) -> x.drive(v, 5));
        bounds("drive: heat", RANGE, 0, 30, (x, v) -> x.drive(5, v));
        bounds("enter: pressure", RANGE, -100, 1000, (x, v) -> x.enter(v));
        bounds("whirlAt: whirl", UNKNOWN, 0, 2, (x, v) -> x.whirlAt(v));
        bounds("energy: whirl", UNKNOWN, 0, 2, (x, v) -> x.energy(v));
    }

    private static void rings() {
        bounds("ring: inductance", RANGE, 1, 100, (x, v) -> x.ring(v, 100));
        bounds("ring: critical", RANGE, 50, 1000, (x, v) -> x.ring(10, v));
        bounds("flux: ring", UNKNOWN, 0, 2, (x, v) -> x.flux(v, 5));
        bounds("flux: flux", RANGE, -1000000, 1000000, (x, v) -> x.flux(2, v));
        bounds("warm: ring", UNKNOWN, 0, 2, (x, v) -> x.warm(v));
        bounds("ofRing: ring", UNKNOWN, 0, 2, (x, v) -> x.ofRing(v, 1));
        bounds("ofRing: what", RANGE, 0, 2, (x, v) -> x.ofRing(2, v));
    }

    private static void coil() {
        bounds("current: current", RANGE, 0, 1000, (x, v) -> x.current(v));
        bounds("heat: part", UNKNOWN, 0, 11, (x, v) -> x.heat(v, 5));
        bounds("heat: more", RANGE, 1, 500, (x, v) -> x.heat(5, v));
        bounds("pass: pulses", RANGE, 1, 50, (x, v) -> x.pass(v));
        bounds("warmth: part", UNKNOWN, 0, 11, (x, v) -> x.warmth(v));
        bounds("ofCoil: what", RANGE, 0, 5, (x, v) -> x.ofCoil(v));
    }

    private static void counter() {
        bounds("margins: lower", RANGE, 0, 1000, (x, v) -> x.margins(v, 1000));
        bounds("margins: upper of lower 0", RANGE, 0, 1000, (x, v) -> x.margins(0, v));
        bounds("margins: upper of lower 400", RANGE, 400, 1000, (x, v) -> x.margins(400, v));
        bounds("margins: upper of lower 1000", RANGE, 1000, 1000, (x, v) -> x.margins(1000, v));
        bounds("margins: lower of upper 400", RANGE, 0, 400, (x, v) -> x.margins(v, 400));
        bounds("pulse: behind", RANGE, 1, 1000, (x, v) -> x.pulse(v, 500));
        bounds("pulse: bias", RANGE, 0, 1000, (x, v) -> x.pulse(500, v));
        bounds("bit: bit", UNKNOWN, 0, 15, (x, v) -> x.bit(v));
    }

    private static void claims() {
        bounds("point: temperature", RANGE, 0, 300, (x, v) -> x.point(v, 5, 5));
        bounds("point: current", RANGE, -1000, 1000, (x, v) -> x.point(5, v, 5));
        bounds("point: voltage", RANGE, -1000000, 1000000, (x, v) -> x.point(5, 5, v));
        bounds("claim: temperature", RANGE, 1, 300, (x, v) -> x.claim(v, 1, 3));
        bounds("claim: from, with the last point", UNKNOWN, 0, 4, (x, v) -> x.claim(30, v, 4));
        bounds("claim: to, with the first point", UNKNOWN, 0, 4, (x, v) -> x.claim(30, 0, v));
        bounds("repeats: claim", UNKNOWN, 0, 2, (x, v) -> x.repeats(v, 5, true));
        bounds("repeats: house", UNKNOWN, 0, 6, (x, v) -> x.repeats(2, v, true));
        bounds("judge: claim", UNKNOWN, 0, 2, (x, v) -> x.judge(v, 5));
        bounds("judge: noise", RANGE, 0, 1000000, (x, v) -> x.judge(2, v));
        claimsToIsFromOrLater();
    }

    private static void claimsToIsFromOrLater() {
        for (int from = 0; from < 5; from++) {
            for (int to = 0; to < 5; to++) {
                int first = from;
                int last = to;
                Due.Deed deed = () -> told().claim(30, first, last);
                if (to < from) {
                    Due.range("claim from " + from + " to " + to, deed);
                } else {
                    Due.taken("claim from " + from + " to " + to, deed);
                }
            }
        }
    }

    /** Where nothing has been told yet, there is no number that names a thing, and the rest still answers. */
    private static void withNothingThere() {
        int[] numbers = {-1, 0, 1};
        for (int number : numbers) {
            Due.unknown("set of " + number + ", none there", () -> new Vortexpin().set(number, 5, 5));
            Due.unknown("deep of " + number + ", none there", () -> new Vortexpin().deep(number));
            Due.unknown("whirlAt of " + number + ", none there", () -> new Vortexpin().whirlAt(number));
            Due.unknown("energy of " + number + ", none there", () -> new Vortexpin().energy(number));
            Due.unknown("flux of " + number + ", none there", () -> new Vortexpin().flux(number, 5));
            Due.unknown("warm of " + number + ", none there", () -> new Vortexpin().warm(number));
            Due.unknown("ofRing of " + number + ", none there", () -> new Vortexpin().ofRing(number, 0));
            Due.unknown("claim of " + number + ", none there", () -> new Vortexpin().claim(30, number, number));
            Due.unknown("repeats of " + number + ", none there", () -> new Vortexpin().repeats(number, 0, true));
            Due.unknown("judge of " + number + ", none there", () -> new Vortexpin().judge(number, 0));
        }
        Due.same("step with no whirl", new Vortexpin().step(), 0);
        Due.same("avalanche with no whirl", new Vortexpin().avalanche(), 0);
        Due.same("enter where nothing is", new Vortexpin().enter(0), 0);
        Due.same("pass with no current", new Vortexpin().pass(50), 0);
        Due.sameDouble("share of nothing", new Vortexpin().share(), 0.0);
    }
}
