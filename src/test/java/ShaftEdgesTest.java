/** The edges that the document names for the shaft and the counter, promises 2 to 6: a test for each sentence. */
public final class ShaftEdgesTest {
    private static final int[] FAR_OFF = {Integer.MIN_VALUE, Integer.MIN_VALUE + 20, -65280, 65280,
        Integer.MAX_VALUE - 20, Integer.MAX_VALUE};
    private static final Due due = new Due();

    public static void main(String[] args) {
        places();
        turnsHave4080Places();
        quartersHave1020Places();
        sectorsHave510Angles();
        counterHas64Values();
        boundsAreCrossedOneAfterTheOther();
        boundsAreCrossedByOneMoreOrOneLess();
        countsWithThePowerOn();
        crossingsTakeCharge();
        countsWithoutPowerLikewise();
        nothingWithoutCharge();
        missedCrossings();
        turnArgument();
        turnOutOfRange();
        powerArgument();
        powerAnswer();
        brownoutArgument();
        brownoutLimit();
        chargeArgument();
        countArgument();
        countOfNoAcceptedPlace();
        countOfCorrections();
        countOfSamplesApart();
        countOfSettings();
        due.end();
    }

    private static void places() {
        due.sentence("The shaft has a place, 0 to 65279, initially 0");
        due.is("count(0)", new VernierEncoder().count(0), 0);
        VernierEncoder x = Prepared.at(65278);
        due.is("turn(2) at 65278", x.turn(2), -2);
        due.is("turn(1) at 65278", x.turn(1), 65279);
        due.is("count(0)", x.count(0), 65279);
        due.is("turn(1) at 65279", x.turn(1), -2);
        due.is("count(0)", x.count(0), 65279);
        x = Prepared.at(1);
        due.is("turn(-2) at 1", x.turn(-2), -2);
        due.is("turn(-1) at 1", x.turn(-1), 0);
        due.is("turn(-1) at 0", x.turn(-1), -2);
        due.is("count(0)", x.count(0), 0);
    }

    private static void turnsHave4080Places() {
        due.sentence("one turn has 4080 places");
        int[][] angles = {{0, 0}, {4079, 4079}, {4080, 0}, {4081, 1}, {8159, 4079}, {8160, 0}, {61199, 4079},
            {61200, 0}, {65279, 4079}};
        for (int[] pair : angles) {
            due.is("angle of the place " + pair[0], Prepared.at(pair[0]).count(1), pair[1]);
        }
    }

    private static void quartersHave1020Places() {
        due.sentence("a quarter 1020");
        for (int quarter = 1; quarter < 64; quarter++) {
            VernierEncoder x = Prepared.at(quarter * 1020 - 1);
            due.is("the end of the quarter before " + quarter, x.count(2), quarter - 1);
            x.turn(1);
            due.is("the begin of the quarter " + quarter, x.count(2), quarter);
        }
    }

    private static void sectorsHave510Angles() {
        due.sentence("The sector of an angle is the angle / 510, 0 to 7");
        for (int sector = 0; sector < 8; sector++) {
            int begin = 4080 + sector * 510;
            int[] places = {begin - 1, begin, begin + 509, begin + 510};
            int[] errors = {0, 3, 3, 0};
            for (int index = 0; index < places.length; index++) {
                VernierEncoder x = Prepared.at(places[index]);
                int before = x.reading(2);
                x.disk(2, sector, 3);
                due.is("sector " + sector + " at " + places[index], Math.floorMod(x.reading(2) - before, 240),
                        errors[index]);
            }
        }
    }

    private static void counterHas64Values() {
        due.sentence("A counter of quarter turns has a value, 0 to 63, initially 0");
        due.is("count(2)", new VernierEncoder().count(2), 0);
        VernierEncoder x = Prepared.uncounted(0, 2);
        x.turn(-1020);
        due.is("one less than 0", x.count(2), 63);
        x.turn(-1020);
        due.is("two less than 0", x.count(2), 62);
        x.turn(2040);
        due.is("two more than 62", x.count(2), 0);
        x = Prepared.uncounted(63, -2);
        due.is("the greatest value", x.count(2), 63);
        x.turn(1020);
        due.is("one more than 63", x.count(2), 0);
        x.turn(-1020);
        due.is("one less than 0 again", x.count(2), 63);
    }

    private static void boundsAreCrossedOneAfterTheOther() {
        due.sentence("If the shaft is turned by n places, it crosses the bounds of quarters one after the other");
        VernierEncoder x = new VernierEncoder();
        x.turn(9999);
        due.is("nine bounds up", x.count(2), 9);
        x.turn(-9999);
        due.is("nine bounds down", x.count(2), 0);
        x = Prepared.at(201);
        x.turn(9999);
        due.is("ten bounds up", x.count(2), 10);
        x.turn(-9999);
        due.is("ten bounds down", x.count(2), 0);
        x.power(0);
        x.charge(4);
        x.turn(9999);
        due.is("four of ten bounds, then the charge is at its end", x.count(2), 4);
    }

    private static void boundsAreCrossedByOneMoreOrOneLess() {
        due.sentence("a bound is crossed each time that place / 1020 becomes one more, or one less");
        VernierEncoder x = Prepared.at(1020);
        x.turn(0);
        due.is("turn(0) on a bound", x.count(2), 1);
        x.turn(1);
        x.turn(-1);
        due.is("from a bound and back to it", x.count(2), 1);
        x.turn(-1);
        due.is("from a bound downward", x.count(2), 0);
        x.turn(-1019);
        due.is("down to the place 0", x.count(2), 0);
        x.turn(1019);
        due.is("up to just below a bound", x.count(2), 0);
        x.turn(1);
        due.is("up onto a bound", x.count(2), 1);
        x.turn(1019);
        due.is("up to just below the next bound", x.count(2), 1);
        x.turn(-1020);
        due.is("a quarter down", x.count(2), 0);
    }

    private static void countsWithThePowerOn() {
        due.sentence("While the power is on, which it is initially, the value becomes 1 more or 1 less with each"
                + " crossing upward or downward (the remainder by 64).");
        VernierEncoder x = new VernierEncoder();
        due.is("count(3)", x.count(3), 1);
        x.charge(0);
        x.turn(3060);
        due.is("three up without charge", x.count(2), 3);
        x.turn(-2040);
        due.is("two down without charge", x.count(2), 1);
        x.charge(1);
        x.brownout(1);
        x.turn(1020);
        due.is("one up with one to be missed", x.count(2), 2);
        due.is("the charge is not taken", x.count(4), 1);
        due.is("none less is to be missed", x.count(5), 1);
    }

    private static void crossingsTakeCharge() {
        due.sentence("each crossing takes 1 of the charge (0 to 999, initially 200)");
        VernierEncoder x = new VernierEncoder();
        due.is("count(4)", x.count(4), 200);
        x.power(0);
        for (int crossed = 1; crossed <= 200; crossed++) {
            x.turn(crossed % 2 == 0 ? -1020 : 1020);
            due.is("charge after " + crossed + " crossings", x.count(4), 200 - crossed);
        }
        due.is("as many up as down", x.count(2), 0);
        x.turn(1020);
        due.is("charge at its end", x.count(4), 0);
        x.charge(999);
        x.turn(1020);
        due.is("charge below the greatest", x.count(4), 998);
        x.turn(5);
        due.is("no crossing, no charge", x.count(4), 998);
    }

    private static void countsWithoutPowerLikewise() {
        due.sentence("While it is off, the same is so");
        VernierEncoder x = Prepared.uncounted(0, 2);
        x.power(0);
        x.charge(200);
        x.turn(-1020);
        due.is("one less than 0", x.count(2), 63);
        x.turn(2040);
        due.is("two more than 63", x.count(2), 1);
        due.is("three crossings", x.count(4), 197);
    }

    private static void nothingWithoutCharge() {
        due.sentence("without charge nothing is counted, and none less is to be missed");
        VernierEncoder x = new VernierEncoder();
        x.power(0);
        x.charge(1);
        x.turn(1020);
        due.is("the last charge counts", x.count(2), 1);
        due.is("the charge is at its end", x.count(4), 0);
        x.turn(1020);
        due.is("up without charge", x.count(2), 1);
        x.turn(-2040);
        due.is("down without charge", x.count(2), 1);
        due.is("not below 0", x.count(4), 0);
        x.brownout(2);
        x.turn(3060);
        due.is("to be missed, without charge", x.count(5), 2);
        x.charge(1);
        x.turn(-3060);
        due.is("missed with the last charge", x.count(5), 1);
        due.is("not counted", x.count(2), 1);
        due.is("the charge is at its end again", x.count(4), 0);
    }

    private static void missedCrossings() {
        due.sentence("if crossings are to be missed (by brownouts, initially none), the crossing takes its charge, is"
                + " not counted, and there is one less to be missed");
        VernierEncoder x = new VernierEncoder();
        due.is("count(5)", x.count(5), 0);
        x.brownout(1);
        x.power(0);
        x.turn(1019);
        due.is("no crossing, none missed", x.count(5), 1);
        x.turn(1);
        due.is("the only one is missed", x.count(5), 0);
        due.is("it is not counted", x.count(2), 0);
        due.is("it takes its charge", x.count(4), 199);
        x.turn(1020);
        due.is("the next one is counted", x.count(2), 1);
        due.is("none is to be missed", x.count(5), 0);
        due.is("it takes its charge, too", x.count(4), 198);
        x.brownout(2);
        x.turn(-2040);
        due.is("downward ones are missed", x.count(2), 1);
        due.is("both", x.count(5), 0);
        x.brownout(1);
        x.turn(3060);
        due.is("the first of three is missed", x.count(2), 3);
    }

    private static void turnArgument() {
        due.sentence("places: -9999 to 9999");
        VernierEncoder x = new VernierEncoder();
        due.is("turn(10000)", x.turn(10000), -1);
        due.is("turn(9999)", x.turn(9999), 9999);
        due.is("turn(-10000)", x.turn(-10000), -1);
        due.is("turn(-9999)", x.turn(-9999), 0);
        for (int places : FAR_OFF) {
            due.is("turn(" + places + ")", x.turn(places), -1);
        }
        due.is("turn(0)", x.turn(0), 0);
    }

    private static void turnOutOfRange() {
        due.sentence("NOT_POSSIBLE if the place would be out of range.");
        due.is("turn(9999) at 55280", Prepared.at(55280).turn(9999), 65279);
        due.is("turn(9999) at 55281", Prepared.at(55281).turn(9999), -2);
        due.is("turn(-9999) at 9999", Prepared.at(9999).turn(-9999), 0);
        due.is("turn(-9999) at 9998", Prepared.at(9998).turn(-9999), -2);
        VernierEncoder x = Prepared.at(9998);
        x.turn(-9999);
        due.is("no bound was crossed", x.count(2), 9);
        due.is("place", x.count(0), 9998);
    }

    private static void powerArgument() {
        due.sentence("on: 1: on; 0: off");
        VernierEncoder x = new VernierEncoder();
        due.is("power(2)", x.power(2), -1);
        due.is("power(-1)", x.power(-1), -1);
        for (int on : FAR_OFF) {
            due.is("power(" + on + ")", x.power(on), -1);
        }
        due.is("still on", x.count(3), 1);
        x.power(0);
        due.is("power(2)", x.power(2), -1);
        due.is("power(-1)", x.power(-1), -1);
        due.is("still off", x.count(3), 0);
    }

    private static void powerAnswer() {
        due.sentence("Returns 1 if it was on, else 0");
        VernierEncoder x = new VernierEncoder();
        int[] on = {1, 0, 0, 1, 1, 0, 1};
        int before = 1;
        for (int value : on) {
            due.is("power(" + value + ")", x.power(value), before);
            due.is("count(3)", x.count(3), value);
            before = value;
        }
    }

    private static void brownoutArgument() {
        due.sentence("crossings: 1 to 9");
        VernierEncoder x = new VernierEncoder();
        due.is("brownout(0)", x.brownout(0), -1);
        due.is("brownout(1)", x.brownout(1), 1);
        due.is("brownout(-1)", x.brownout(-1), -1);
        due.is("brownout(9)", x.brownout(9), 10);
        due.is("brownout(10)", x.brownout(10), -1);
        for (int crossings : FAR_OFF) {
            due.is("brownout(" + crossings + ")", x.brownout(crossings), -1);
        }
        due.is("count(5)", x.count(5), 10);
    }

    private static void brownoutLimit() {
        due.sentence("LIMIT_REACHED if there would be more than 99.");
        VernierEncoder x = new VernierEncoder();
        for (int times = 1; times <= 10; times++) {
            due.is("brownout(9)", x.brownout(9), 9 * times);
        }
        x.undo();
        due.is("brownout(9) at 81", x.brownout(9), 90);
        due.is("brownout(9) at 90", x.brownout(9), 99);
        due.is("brownout(1) at 99", x.brownout(1), -3);
        due.is("brownout(9) at 99", x.brownout(9), -3);
        due.is("count(5)", x.count(5), 99);
        x.power(0);
        x.turn(1020);
        due.is("brownout(2) at 98", x.brownout(2), -3);
        due.is("brownout(1) at 98", x.brownout(1), 99);
    }

    private static void chargeArgument() {
        due.sentence("charge: 0 to 999");
        VernierEncoder x = new VernierEncoder();
        due.is("charge(1000)", x.charge(1000), -1);
        due.is("charge(-1)", x.charge(-1), -1);
        due.is("charge(0)", x.charge(0), 200);
        due.is("charge(-1) at 0", x.charge(-1), -1);
        due.is("charge(999)", x.charge(999), 0);
        due.is("charge(1000) at 999", x.charge(1000), -1);
        for (int charge : FAR_OFF) {
            due.is("charge(" + charge + ")", x.charge(charge), -1);
        }
        due.is("count(4)", x.count(4), 999);
    }

    private static void countArgument() {
        due.sentence("Returns the number; INVALID_ARGUMENT if what is out of range.");
        VernierEncoder x = new VernierEncoder();
        x.sample();
        for (int what = -30; what <= 60; what++) {
            boolean known = what >= 0 && what <= 11 || what >= 20 && what <= 23;
            due.holds("count(" + what + ") is a number: " + known, known == (x.count(what) >= 0));
            due.holds("count(" + what + ") is -1: " + !known, known != (x.count(what) == -1));
        }
        for (int what : FAR_OFF) {
            due.is("count(" + what + ")", x.count(what), -1);
        }
    }

    private static void countOfNoAcceptedPlace() {
        due.sentence("the accepted place (NOT_FOUND if there is none)");
        VernierEncoder x = new VernierEncoder();
        due.is("count(6)", x.count(6), -4);
        x.sample();
        due.is("count(6) at the place 0", x.count(6), 0);
        x.forget();
        due.is("count(6) forgotten", x.count(6), -4);
        x.undo();
        due.is("count(6) not forgotten", x.count(6), 0);
        x = Prepared.at(65279);
        x.sample();
        due.is("count(6) at the last place", x.count(6), 65279);
    }

    private static void countOfCorrections() {
        due.sentence("9: corrections that are not 0");
        VernierEncoder x = new VernierEncoder();
        for (int cell = 0; cell < 24; cell++) {
            due.is("count(9)", x.count(9), cell);
            x.correct(cell / 8, cell % 8, cell % 2 == 0 ? 1 : -1);
        }
        due.is("count(9) of all", x.count(9), 24);
        for (int cell = 0; cell < 24; cell++) {
            x.correct(cell / 8, cell % 8, 0);
            due.is("count(9)", x.count(9), 23 - cell);
        }
    }

    private static void countOfSamplesApart() {
        due.sentence("7: samples in a row that were apart (test 3)");
        VernierEncoder x = new VernierEncoder();
        due.is("count(7)", x.count(7), 0);
        x.set(3, 31);
        for (int samples = 1; samples <= 150; samples++) {
            x.sample();
            due.is("count(7)", x.count(7), samples);
        }
        x.set(3, 0);
        x.sample();
        due.is("count(7)", x.count(7), 0);
    }

    private static void countOfSettings() {
        due.sentence("20 to 23: the settings 0 to 3, the bias 100 higher");
        int[][] ends = {{0, 40}, {0, 32}, {1, 4080}, {-31, 31}};
        for (int what = 0; what < 4; what++) {
            for (int value : ends[what]) {
                VernierEncoder x = new VernierEncoder();
                x.set(what, value);
                due.is("count(" + (20 + what) + ") of " + value, x.count(20 + what), what == 3 ? value + 100 : value);
            }
        }
        VernierEncoder x = new VernierEncoder();
        int[] first = {5, 2, 500, 100};
        for (int what = 0; what < 4; what++) {
            due.is("count(" + (20 + what) + ") of a new object", x.count(20 + what), first[what]);
        }
    }
}
