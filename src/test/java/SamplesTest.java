/** Promises 20 to 23: sample, reason, forget, apart. */
public final class SamplesTest {
    private static final Due due = new Due();

    public static void main(String[] args) {
        accepted();
        notWithoutPower();
        tolerance();
        counterFits();
        counterFitsAcrossItsEnds();
        counterIsMendedWithoutAcceptance();
        window();
        samplesInARow();
        step();
        stepAcrossTheEnds();
        theFirstReasonCounts();
        forget();
        apart();
        due.end();
    }

    private static void accepted() {
        VernierEncoder x = new VernierEncoder();
        for (int place = 500; place < 65280; place += 500) {
            x.turn(500);
            due.is("reason()", x.reason(), 0);
            due.is("sample()", x.sample(), place);
            due.is("count(6)", x.count(6), place);
        }
    }

    private static void notWithoutPower() {
        VernierEncoder x = new VernierEncoder();
        x.power(0);
        due.is("sample() without power", x.sample(), -2);
        due.is("reason() without power", x.reason(), -2);
        x.power(1);
        due.is("reason()", x.reason(), 0);
        due.is("reason() changes nothing", x.count(6), -4);
        due.is("states", x.count(10), 2);
    }

    private static void tolerance() {
        VernierEncoder x = new VernierEncoder();
        x.turn(2000);
        x.noise(0, 9);
        due.is("look(1)", x.look(1), 5);
        due.is("at the tolerance", x.reason(), 0);
        x.set(0, 4);
        due.is("above the tolerance", x.reason(), 1);
        due.is("sample()", x.sample(), 100001);
        due.is("count(6)", x.count(6), -4);
        due.is("a sample not accepted is a change", x.count(10), 4);
        due.is("undo()", x.undo(), 3);
    }

    private static void counterFits() {
        int[] reasons = {0, 0, 2, 0, 0, 0, 2, 0, 0};
        int[] values = {8, 9, 8, 7, 8, 9, 8, 7, 8};
        for (int quarters = -4; quarters <= 4; quarters++) {
            VernierEncoder x = Prepared.uncounted(8, quarters);
            due.is("reason() at " + quarters, x.reason(), reasons[quarters + 4]);
            due.is("the counter stays at " + quarters, x.count(2), 8);
            int value = values[quarters + 4];
            int answer = reasons[quarters + 4] == 2 ? 100002 : value * 1020;
            due.is("sample() at " + quarters, x.sample(), answer);
            due.is("the counter at " + quarters, x.count(2), value);
        }
    }

    private static void counterFitsAcrossItsEnds() {
        VernierEncoder x = Prepared.uncounted(0, 3);
        due.is("sample() below 0", x.sample(), 15 * 4080 + 3060);
        due.is("the counter", x.count(2), 63);
        x = Prepared.uncounted(63, -3);
        due.is("sample() above 63", x.sample(), 0);
        due.is("the counter", x.count(2), 0);
    }

    private static void counterIsMendedWithoutAcceptance() {
        VernierEncoder x = new VernierEncoder();
        x.sample();
        x.power(0);
        x.charge(0);
        x.turn(1020);
        x.power(1);
        due.is("reason()", x.reason(), 4);
        due.is("sample()", x.sample(), 100004);
        due.is("the counter", x.count(2), 1);
        due.is("the accepted place", x.count(6), 0);
        x.set(1, 0);
        x.set(3, 9);
        x.forget();
        x.power(0);
        x.turn(1020);
        x.power(1);
        x.sample();
        x.sample();
        due.is("mended by an accepted one", x.count(2), 2);
        x.power(0);
        x.turn(-1020);
        x.power(1);
        due.is("sample() too often apart", x.sample(), 100003);
        due.is("the counter", x.count(2), 1);
    }

    private static void window() {
        VernierEncoder x = new VernierEncoder();
        x.set(3, 2);
        x.sample();
        due.is("in the window", x.count(7), 0);
        x.set(3, -2);
        x.sample();
        due.is("in the window", x.count(7), 0);
        x.set(3, 3);
        x.sample();
        due.is("above the window", x.count(7), 1);
        x.set(3, -3);
        x.sample();
        due.is("below the window", x.count(7), 2);
        x.set(3, 31);
        x.set(1, 31);
        x.sample();
        due.is("in a wide window", x.count(7), 0);
        x.set(3, -31);
        x.set(1, 30);
        x.sample();
        due.is("31 apart", x.count(7), 1);
        x.turn(4000);
        x.forget();
        x.sample();
        due.is("31 apart at the end of the turn", x.count(7), 1);
        x.set(3, 0);
        x.set(1, 0);
        x.turn(16);
        x.noise(0, 5);
        x.noise(1, 5);
        x.noise(2, 5);
        x.sample();
        due.is("the angle found is a step of the sensor ahead", x.count(7), 2);
        x.turn(1);
        x.sample();
        due.is("the angle found is in the same step of the sensor", x.count(7), 0);
    }

    private static void samplesInARow() {
        VernierEncoder x = new VernierEncoder();
        x.set(3, 10);
        due.is("the first", x.sample(), 0);
        due.is("the second", x.sample(), 0);
        due.is("reason of the third", x.reason(), 3);
        due.is("reason() changes nothing", x.count(7), 2);
        x.noise(0, 9);
        x.set(0, 0);
        due.is("one that did not get as far", x.sample(), 100001);
        due.is("count(7)", x.count(7), 2);
        x.noise(0, 0);
        due.is("the third", x.sample(), 100003);
        due.is("the fourth", x.sample(), 100003);
        due.is("count(7)", x.count(7), 4);
        x.undo();
        due.is("count(7) undone", x.count(7), 3);
        x.set(3, 0);
        due.is("one that is not apart", x.sample(), 0);
        due.is("count(7)", x.count(7), 0);
        x.set(3, 10);
        x.turn(600);
        due.is("apart, but the step is the reason", x.sample(), 100004);
        due.is("count(7) counts it", x.count(7), 1);
        due.is("apart again", x.sample(), 100004);
        due.is("apart too often", x.sample(), 100003);
    }

    private static void step() {
        VernierEncoder x = new VernierEncoder();
        x.turn(4000);
        x.sample();
        x.turn(500);
        due.is("at the step", x.reason(), 0);
        x.turn(1);
        due.is("above the step", x.reason(), 4);
        due.is("sample()", x.sample(), 100004);
        x.turn(-1001);
        due.is("at the step downward", x.reason(), 0);
        x.turn(-1);
        due.is("above the step downward", x.reason(), 4);
        x.set(2, 501);
        due.is("in another step", x.sample(), 3499);
        x.set(2, 4080);
        x.turn(4080);
        due.is("a whole turn", x.reason(), 0);
        x.turn(1);
        due.is("more than a whole turn", x.reason(), 4);
    }

    private static void stepAcrossTheEnds() {
        VernierEncoder x = new VernierEncoder();
        x.sample();
        x.set(2, 1021);
        x.power(0);
        x.charge(0);
        x.turn(3060);
        x.power(1);
        due.is("1020 below 0", x.sample(), 64260);
        due.is("apart", x.apart(), 4080);
    }

    private static void theFirstReasonCounts() {
        VernierEncoder x = new VernierEncoder();
        x.set(3, 20);
        x.sample();
        x.sample();
        x.power(0);
        x.charge(0);
        x.turn(2040);
        x.power(1);
        x.noise(0, 9);
        x.noise(1, -9);
        due.is("the deviation first", x.reason(), 1);
        due.is("sample()", x.sample(), 100001);
        x.noise(0, 0);
        x.noise(1, 0);
        due.is("the counter second", x.reason(), 2);
        due.is("sample()", x.sample(), 100002);
        due.is("count(7)", x.count(7), 2);
        x.power(0);
        x.turn(1020);
        x.power(1);
        due.is("the coarse sensor third", x.reason(), 3);
        due.is("sample()", x.sample(), 100003);
        due.is("count(7)", x.count(7), 3);
        x.set(1, 20);
        due.is("the step last", x.reason(), 4);
        due.is("the counter was mended", x.count(2), 63);
    }

    private static void forget() {
        VernierEncoder x = new VernierEncoder();
        due.is("forget() without one", x.forget(), 0);
        x.set(3, 9);
        x.sample();
        due.is("count(7)", x.count(7), 1);
        due.is("forget()", x.forget(), 1);
        due.is("count(7)", x.count(7), 0);
        due.is("count(6)", x.count(6), -4);
        due.is("forget() again", x.forget(), 0);
        x.turn(5000);
        due.is("any step is fine then", x.sample(), 5000);
    }

    private static void apart() {
        VernierEncoder x = new VernierEncoder();
        due.is("apart() without one", x.apart(), -4);
        x.sample();
        due.is("apart()", x.apart(), 0);
        int place = 0;
        for (int turned = 0; turned < 13; turned++) {
            place = x.turn(5000);
            due.is("apart() at " + place, x.apart(), Math.min(place, 65280 - place));
        }
        x.turn(279);
        due.is("apart() at the end", x.apart(), 1);
        x.forget();
        due.is("apart() forgotten", x.apart(), -4);
        x.sample();
        x.turn(-10);
        due.is("apart() downward", x.apart(), 10);
        x.noise(0, 9);
        due.is("apart() of the shaft, not of what is found", x.apart(), 10);
    }
}
