/** Promise 1: a new object holds nothing but the film, the coil, the counter; and objects share nothing. */
public final class NewObjectTest {
    public static void main(String[] args) {
        holdsNothing(new Vortexpin());
        Vortexpin used = new Vortexpin();
        use(used);
        holdsNothing(new Vortexpin());
        Due.close();
    }

    private static void use(Vortexpin x) {
        x.sample(100, 50, 200);
        x.set(0, 50, 10);
        x.pin(3, 7);
        x.drive(4, 5);
        x.enter(1000);
        x.ring(10, 100);
        x.flux(0, 7000);
        x.current(700);
        x.heat(4, 500);
        x.pass(9);
        x.margins(0, 1);
        x.pulse(9, 9);
        x.point(20, 5, 6);
        x.claim(30, 0, 0);
        x.repeats(0, 0, true);
    }

    private static void holdsNothing(Vortexpin x) {
        Due.unknown("set(0, 0, 0)", () -> x.set(0, 0, 0));
        Due.unknown("deep(0)", () -> x.deep(0));
        Due.unknown("whirlAt(0)", () -> x.whirlAt(0));
        Due.unknown("energy(0)", () -> x.energy(0));
        Due.unknown("flux(0, 0)", () -> x.flux(0, 0));
        Due.unknown("warm(0)", () -> x.warm(0));
        Due.unknown("ofRing(0, 0)", () -> x.ofRing(0, 0));
        Due.unknown("claim(1, 0, 0)", () -> x.claim(1, 0, 0));
        Due.unknown("repeats(0, 0, true)", () -> x.repeats(0, 0, true));
        Due.unknown("judge(0, 0)", () -> x.judge(0, 0));
        filmIsBare(x);
        coilIsCold(x);
        for (int bit = 0; bit < 16; bit++) {
            Due.same("bit", x.bit(bit), 0);
        }
        Due.same("pulse at the lower margin", x.pulse(5, 300), 1);
        Due.same("pulse at the upper margin", x.pulse(5, 700), 2);
        Due.same("pulse below the lower margin", x.pulse(5, 299), 2);
        Due.same("pulse above the upper margin", x.pulse(5, 701), 4);
    }

    private static void filmIsBare(Vortexpin x) {
        Due.same("step", x.step(), 0);
        Due.same("avalanche", x.avalanche(), 0);
        for (int cell = 0; cell < 48; cell++) {
            Due.same("pin", x.pin(cell, 0), 0);
        }
        Due.same("enter(-1)", x.enter(-1), Vortexpin.NONE);
        Due.same("enter(0)", x.enter(0), 0);
        Due.same("without a drive nothing leaves or creeps", x.step(), 0);
    }

    private static void coilIsCold(Vortexpin x) {
        for (int part = 0; part < 12; part++) {
            Due.same("warmth", x.warmth(part), 4);
        }
        for (int what = 0; what < 6; what++) {
            Due.same("ofCoil", x.ofCoil(what), 0);
        }
        Due.sameDouble("share", x.share(), 0.0);
        Due.same("pass(1)", x.pass(1), 0);
        Due.same("current(0)", x.current(0), 0);
    }
}
