/**
 * If several exceptions apply, the one that the @throws lines name first is thrown: for each method with two or
 * three of them, each pair is asked for, whatever parameter it comes of.
 */
public final class OrderTest {
    private static final int[] NO_NUMBER = {-1, 60, Integer.MIN_VALUE, Integer.MAX_VALUE};

    public static void main(String[] args) {
        rangeAheadOfFull();
        unknownAheadOfRange();
        claimHasThree();
        Due.close();
    }

    /** As many of each as there may be. */
    private static Vortexpin full() {
        Vortexpin x = new Vortexpin();
        for (int k = 0; k < 8; k++) {
            x.sample(100, 50, 200);
        }
        x.drive(-9, 30);
        for (int k = 0; k < 20; k++) {
            x.enter(1000);
            x.step();
        }
        for (int k = 0; k < 6; k++) {
            x.ring(10, 100);
        }
        for (int k = 0; k < 60; k++) {
            x.point(20, k, k);
        }
        for (int k = 0; k < 8; k++) {
            x.claim(30, 0, 59);
        }
        return x;
    }

    private static void rangeAheadOfFull() {
        Vortexpin x = full();
        Due.full("sample, full", () -> x.sample(5, 5, 5));
        Due.range("sample: critical, full", () -> x.sample(0, 5, 5));
        Due.range("sample: lower, full", () -> x.sample(5, 1001, 5));
        Due.range("sample: upper, full", () -> x.sample(5, 5, 0));
        Due.full("enter, full", () -> x.enter(5));
        Due.range("enter: pressure below, full", () -> x.enter(-101));
        Due.range("enter: pressure above, full", () -> x.enter(1001));
        Due.full("ring, full", () -> x.ring(5, 50));
        Due.range("ring: inductance, full", () -> x.ring(101, 50));
        Due.range("ring: critical, full", () -> x.ring(5, 49));
        Due.full("point, full", () -> x.point(5, 5, 5));
        Due.range("point: temperature, full", () -> x.point(301, 5, 5));
        Due.range("point: current, full", () -> x.point(5, -1001, 5));
        Due.range("point: voltage, full", () -> x.point(5, 5, 1000001));
    }

    private static void unknownAheadOfRange() {
        Vortexpin x = full();
        for (int number : NO_NUMBER) {
            Due.unknown("set: sample, temperature", () -> x.set(number, 301, 5));
            Due.unknown("set: sample, field", () -> x.set(number, 5, -1001));
            Due.unknown("set: all three", () -> x.set(number, -1, 1001));
            Due.unknown("pin: cell, depth", () -> x.pin(number, 51));
            Due.unknown("flux: ring, flux", () -> x.flux(number, 1000001));
            Due.unknown("ofRing: ring, what", () -> x.ofRing(number, 3));
            Due.unknown("heat: part, more", () -> x.heat(number, 0));
            Due.unknown("judge: claim, noise below", () -> x.judge(number, -1));
            Due.unknown("judge: claim, noise above", () -> x.judge(number, 1000001));
        }
    }

    private static void claimHasThree() {
        Vortexpin full = full();
        Vortexpin open = new Vortexpin();
        for (int k = 0; k < 60; k++) {
            open.point(20, k, k);
        }
        Vortexpin[] both = {open, full};
        for (Vortexpin x : both) {
            for (int number : NO_NUMBER) {
                Due.unknown("claim: from, temperature below", () -> x.claim(0, number, 59));
                Due.unknown("claim: from, temperature above", () -> x.claim(301, number, 59));
                Due.unknown("claim: to, temperature below", () -> x.claim(0, 0, number));
                Due.unknown("claim: to, temperature above", () -> x.claim(301, 0, number));
                Due.unknown("claim: from, of which to is ahead", () -> x.claim(30, number, 0));
                Due.unknown("claim: to, which is ahead of from", () -> x.claim(30, 59, number));
                Due.unknown("claim: from and to", () -> x.claim(30, number, number));
            }
            Due.range("claim: temperature below", () -> x.claim(0, 0, 59));
            Due.range("claim: temperature above", () -> x.claim(301, 0, 59));
            Due.range("claim: to is ahead of from", () -> x.claim(30, 59, 58));
            Due.range("claim: to is ahead of from, and temperature", () -> x.claim(0, 1, 0));
        }
        Due.full("claim, full", () -> full.claim(30, 0, 59));
        Due.unknown("claim: from, full", () -> full.claim(30, 60, 60));
        Due.unknown("claim: to, full", () -> full.claim(30, 0, 60));
        Due.same("claim, not full", open.claim(30, 0, 59), 0);
    }
}
