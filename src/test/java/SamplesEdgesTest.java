/** The edges that the document names for the samples, promises 20 to 23: a test for each sentence. */
public final class SamplesEdgesTest {
    private static final Due due = new Due();

    public static void main(String[] args) {
        counterFits();
        counterFitsAtTheQuartersEnds();
        fittingValue();
        placeFound();
        placeFoundAtTheTurnsEnds();
        onlyWithThePowerOn();
        coarseSensor();
        bias();
        tolerance();
        toleranceEnds();
        window();
        windowEnds();
        apartBothWays();
        thirdInARow();
        orMore();
        notSoFar();
        notSoFarAfterAskingOrForgetting();
        acceptedOrNot();
        rowEndsWithOneThatIsNotApart();
        step();
        stepEnds();
        stepByRemainders();
        stepWithoutAnAcceptedPlace();
        theFirstOfTheseReasons();
        counterGetsTheFittingValue();
        counterStaysOtherwise();
        acceptedPlace();
        sampleAnswer();
        reasonAnswer();
        forgetAnswer();
        forgetTheRow();
        apartAnswer();
        apartWithoutAnAcceptedPlace();
        due.end();
    }

    /** An encoder with a counter's value, whose shaft stands at the begin of a quarter of the same turn. */
    private static VernierEncoder standing(int value, int quarter) {
        return Prepared.uncounted(value, quarter - value % 4);
    }

    private static void counterFits() {
        due.sentence("The counter fits an angle if, with d being the remainder of (angle / 1020 - value) by 4, d is"
                + " not 2.");
        int[] values = {0, 1, 2, 3, 4, 31, 60, 61, 62, 63};
        for (int value : values) {
            for (int quarter = 0; quarter < 4; quarter++) {
                boolean fits = Math.abs(quarter - value % 4) != 2;
                due.is("reason() of " + value + " in the quarter " + quarter, standing(value, quarter).reason(),
                        fits ? 0 : 2);
            }
        }
    }

    private static void counterFitsAtTheQuartersEnds() {
        due.sentence("with d being the remainder of (angle / 1020 - value) by 4");
        int[][] rows = {{0, 1019, 0}, {0, 1020, 0}, {0, 2039, 0}, {0, 2040, 2}, {0, 3059, 2}, {0, 3060, 0},
            {0, 4079, 0}, {1, 0, 0}, {1, 3059, 0}, {1, 3060, 2}, {1, 4079, 2}, {2, 0, 2}, {2, 1019, 2},
            {2, 1020, 0}, {3, 1019, 0}, {3, 1020, 2}, {3, 2039, 2}, {3, 2040, 0}};
        for (int[] row : rows) {
            VernierEncoder x = Prepared.at(row[0] * 1020);
            Prepared.turnUncounted(x, row[1] - row[0] * 1020);
            due.is("reason() of " + row[0] + " at the angle " + row[1], x.reason(), row[2]);
        }
    }

    private static void fittingValue() {
        due.sentence("Then the fitting value is the value if d is 0, 1 more if d is 1, 1 less if d is 3 (the"
                + " remainder by 64).");
        int[] changes = {0, 1, 0, -1};
        int[] values = {0, 1, 2, 3, 4, 31, 32, 60, 61, 62, 63};
        for (int value : values) {
            for (int d = 0; d < 4; d++) {
                VernierEncoder x = standing(value, (value + d) % 4);
                x.sample();
                due.is("the value " + value + ", d " + d, x.count(2), Math.floorMod(value + changes[d], 64));
            }
        }
    }

    private static void placeFound() {
        due.sentence("The place found is the fitting value / 4 * 4080 + the angle found.");
        for (int value = 0; value < 64; value++) {
            VernierEncoder x = Prepared.at(value * 1020 + 1019);
            due.is("sample() with the counter at " + value, x.sample(), value * 1020 + 1019);
        }
        VernierEncoder x = new VernierEncoder();
        Prepared.turnUncounted(x, 8160 + 7);
        due.is("two turns that were not counted", x.sample(), 7);
        x = standing(3, 0);
        due.is("the value 4 in the quarter 0", x.sample(), 4080);
        x = standing(4, 3);
        due.is("the value 3 in the quarter 3", x.sample(), 3060);
    }

    private static void placeFoundAtTheTurnsEnds() {
        due.sentence("the fitting value is (..) 1 more if d is 1, 1 less if d is 3 (the remainder by 64)");
        int[] places = {0, 4079, 4080, 8159, 8160, 61199, 61200, 65279};
        for (int place : places) {
            VernierEncoder x = Prepared.at(place);
            Prepared.noiseOfAll(x, 1);
            due.is("one above " + place, x.sample(), (place + 1) % 65280);
            due.is("the counter one above " + place, x.count(2), (place + 1) % 65280 / 1020);
            x = Prepared.at(place);
            Prepared.noiseOfAll(x, -1);
            due.is("one below " + place, x.sample(), (place + 65279) % 65280);
            due.is("the counter one below " + place, x.count(2), (place + 65279) % 65280 / 1020);
        }
    }

    private static void onlyWithThePowerOn() {
        due.sentence("A sample can be taken while the power is on.");
        VernierEncoder x = Prepared.at(100);
        x.power(0);
        due.is("sample() off", x.sample(), -2);
        due.is("reason() off", x.reason(), -2);
        due.is("count(6)", x.count(6), -4);
        due.is("states", x.count(10), 2);
        x.noise(0, 9);
        x.set(0, 0);
        due.is("reason() off, with a reason", x.reason(), -2);
        due.is("sample() off, with a reason", x.sample(), -2);
        x.power(1);
        due.is("reason() on", x.reason(), 1);
        due.is("sample() on", x.sample(), 100001);
    }

    private static void coarseSensor() {
        due.sentence("the coarse sensor has the remainder of ((angle of the shaft * 64 / 4080) + bias) by 64");
        int[][] steps = {{0, 0}, {63, 0}, {64, 1}, {127, 1}, {128, 2}, {2039, 31}, {2040, 32}, {4016, 62}, {4017, 63},
            {4079, 63}, {4080, 0}, {4143, 0}, {4144, 1}, {65279, 63}};
        for (int[] step : steps) {
            due.is("count(8) at " + step[0], Prepared.at(step[0]).count(8), step[1]);
        }
        VernierEncoder x = Prepared.at(63);
        Prepared.noiseOfAll(x, 9);
        due.is("the shaft's angle, not the found one", x.count(8), 0);
        x.power(0);
        due.is("with the power off, too", x.count(8), 0);
    }

    private static void bias() {
        due.sentence("(bias -31 to 31, initially 0)");
        int[][] rows = {{0, -1, 63}, {0, -31, 33}, {0, 31, 31}, {2040, 31, 63}, {2040, -31, 1}, {2104, 31, 0},
            {4079, 1, 0}, {4079, 31, 30}, {4079, -31, 32}};
        for (int[] row : rows) {
            VernierEncoder x = Prepared.at(row[0]);
            x.set(3, row[1]);
            due.is("count(8) at " + row[0] + " with " + row[1], x.count(8), row[2]);
        }
        due.is("the first bias", new VernierEncoder().set(3, 0), 100);
    }

    private static void tolerance() {
        due.sentence("1: the deviation is above the tolerance (0 to 40, initially 5)");
        VernierEncoder x = Prepared.at(2000);
        x.noise(0, 9);
        due.is("look(1)", x.look(1), 5);
        due.is("5 with the first tolerance", x.reason(), 0);
        x.disk(0, 3, 2);
        due.is("look(1)", x.look(1), 6);
        due.is("6 with the first tolerance", x.reason(), 1);
        x.set(0, 6);
        due.is("6 with 6", x.reason(), 0);
        due.is("sample() of 6 with 6", x.sample() / 100000, 0);
        x.set(0, 5);
        due.is("sample() of 6 with 5", x.sample(), 100001);
    }

    private static void toleranceEnds() {
        due.sentence("(0 to 40, initially 5)");
        VernierEncoder x = Prepared.at(2000);
        x.set(0, 0);
        due.is("0 with 0", x.reason(), 0);
        x.noise(0, 1);
        due.is("look(1)", x.look(1), 1);
        due.is("1 with 0", x.reason(), 1);
        x = new VernierEncoder();
        int[] errors = {-9, 9, -9};
        int[] corrections = {20, -11, 20};
        for (int track = 0; track < 3; track++) {
            x.noise(track, errors[track]);
            for (int sector = 0; sector < 8; sector++) {
                x.disk(track, sector, errors[track]);
                x.correct(track, sector, corrections[track]);
            }
        }
        due.is("the greatest deviation of all", x.look(1), 34);
        x.set(0, 33);
        due.is("34 with 33", x.reason(), 1);
        x.set(0, 34);
        due.holds("34 with 34", x.reason() != 1);
        x.set(0, 40);
        due.holds("34 with 40", x.reason() != 1);
    }

    /** How many samples in a row are apart after the first sample of an encoder. */
    private static int apartInRow(VernierEncoder x) {
        x.sample();
        return x.count(7);
    }

    private static void window() {
        due.sentence("the coarse sensor is apart from (the angle found * 64 / 4080) by more than the window (0 to 32,"
                + " initially 2)");
        int[][] rows = {{-3, 1}, {-2, 0}, {0, 0}, {2, 0}, {3, 1}, {31, 1}, {-31, 1}};
        for (int[] row : rows) {
            int[] places = {0, 2040, 4079};
            for (int place : places) {
                VernierEncoder x = Prepared.at(place);
                x.set(3, row[0]);
                due.is("apart by " + row[0] + " at " + place, apartInRow(x), row[1]);
            }
        }
        VernierEncoder x = Prepared.at(63);
        Prepared.noiseOfAll(x, 1);
        x.set(1, 0);
        due.is("the angle found is a step of the sensor ahead", apartInRow(x), 1);
        x = Prepared.at(62);
        Prepared.noiseOfAll(x, 1);
        x.set(1, 0);
        due.is("the angle found is in the same step of the sensor", apartInRow(x), 0);
    }

    private static void windowEnds() {
        due.sentence("(0 to 32, initially 2)");
        VernierEncoder x = new VernierEncoder();
        x.set(1, 0);
        due.is("0 with 0", apartInRow(x), 0);
        x.set(3, 1);
        due.is("1 with 0", apartInRow(x), 1);
        x = new VernierEncoder();
        x.set(3, 31);
        x.set(1, 31);
        due.is("31 with 31", apartInRow(x), 0);
        Prepared.noiseOfAll(x, -1);
        due.is("32 with 31", apartInRow(x), 1);
        x.set(1, 32);
        due.is("32 with 32", apartInRow(x), 0);
        x = Prepared.at(4079);
        x.set(3, -31);
        x.set(1, 31);
        Prepared.noiseOfAll(x, 1);
        due.is("32 the other way with 31", apartInRow(x), 1);
        x.set(1, 32);
        due.is("32 the other way with 32", apartInRow(x), 0);
    }

    private static void apartBothWays() {
        due.sentence("apart are two numbers by the lesser one of the remainders of their differences, both ways, by"
                + " 64");
        int[][] rows = {{0, -1}, {0, 1}, {4079, 1}, {4079, -1}};
        for (int[] row : rows) {
            VernierEncoder x = Prepared.at(row[0]);
            x.set(3, row[1]);
            x.set(1, 1);
            due.is(row[1] + " at " + row[0] + " with 1", apartInRow(x), 0);
            x.set(1, 0);
            due.is(row[1] + " at " + row[0] + " with 0", apartInRow(x), 1);
        }
    }

    private static void thirdInARow() {
        due.sentence("for the third sample in a row");
        VernierEncoder x = new VernierEncoder();
        x.set(3, 3);
        due.is("reason() of the first", x.reason(), 0);
        due.is("the first", x.sample(), 0);
        due.is("reason() of the second", x.reason(), 0);
        due.is("the second", x.sample(), 0);
        due.is("reason() of the third", x.reason(), 3);
        due.is("reason() of the third again", x.reason(), 3);
        due.is("the third", x.sample(), 100003);
    }

    private static void orMore() {
        due.sentence("for the third sample in a row or more");
        VernierEncoder x = new VernierEncoder();
        x.set(3, -3);
        x.sample();
        x.sample();
        for (int sample = 3; sample <= 12; sample++) {
            due.is("the sample " + sample, x.sample(), 100003);
            due.is("count(7)", x.count(7), sample);
        }
        due.is("reason() of the next", x.reason(), 3);
    }

    private static void notSoFar() {
        due.sentence("(of those that got as far as this test");
        VernierEncoder x = new VernierEncoder();
        x.set(3, 3);
        x.sample();
        x.sample();
        x.set(0, 0);
        x.noise(0, 1);
        due.is("one for the reason 1", x.sample(), 100001);
        due.is("count(7)", x.count(7), 2);
        x.noise(0, 0);
        Prepared.turnUncounted(x, 2040);
        due.is("one for the reason 2", x.sample(), 100002);
        due.is("count(7)", x.count(7), 2);
        x.set(3, 0);
        due.is("one for the reason 2 that is not apart", x.sample(), 100002);
        due.is("count(7)", x.count(7), 2);
        Prepared.turnUncounted(x, -2040);
        x.set(3, 3);
        due.is("the third of those", x.sample(), 100003);
    }

    private static void notSoFarAfterAskingOrForgetting() {
        due.sentence("(of those that got as far as this test");
        VernierEncoder x = new VernierEncoder();
        x.set(3, 3);
        x.sample();
        x.reason();
        x.set(0, 0);
        x.noise(0, 1);
        x.sample();
        due.is("reason() was not one of them", x.count(7), 1);
        x.forget();
        x.sample();
        due.is("the row that was forgotten stays so", x.count(7), 0);
        x.undo();
        x.undo();
        x.sample();
        due.is("the row that was not forgotten stays so", x.count(7), 1);
        Prepared.turnUncounted(x, 2040);
        x.noise(0, 0);
        x.forget();
        x.sample();
        due.is("the row that was forgotten stays so for the reason 2", x.count(7), 0);
    }

    private static void acceptedOrNot() {
        due.sentence("(of those that got as far as this test, accepted or not");
        VernierEncoder x = new VernierEncoder();
        x.sample();
        x.turn(501);
        x.set(3, 3);
        due.is("the first, not accepted", x.sample(), 100004);
        due.is("count(7)", x.count(7), 1);
        due.is("the second, not accepted", x.sample(), 100004);
        due.is("the third", x.sample(), 100003);
        x.set(3, 0);
        due.is("not apart and not accepted", x.sample(), 100004);
        due.is("count(7)", x.count(7), 0);
        x.set(3, 3);
        due.is("the first again", x.sample(), 100004);
    }

    private static void rowEndsWithOneThatIsNotApart() {
        due.sentence("in a row");
        VernierEncoder x = new VernierEncoder();
        int[] biases = {3, -3, 2, 3, 3, 3, -2, 3, 0, 3, 3};
        int[] rows = {1, 2, 0, 1, 2, 3, 0, 1, 0, 1, 2};
        for (int index = 0; index < biases.length; index++) {
            x.set(3, biases[index]);
            due.is("the sample " + index, x.sample(), rows[index] == 3 ? 100003 : 0);
            due.is("count(7)", x.count(7), rows[index]);
        }
    }

    private static void step() {
        due.sentence("4: there is an accepted place, and the place found is apart from it (by remainders by 65280) by"
                + " more than the step (1 to 4080, initially 500)");
        VernierEncoder x = Prepared.at(5000);
        x.sample();
        int[][] rows = {{4499, 4}, {4500, 0}, {4501, 0}, {5000, 0}, {5499, 0}, {5500, 0}, {5501, 4}, {15000, 4}};
        for (int[] row : rows) {
            Prepared.turnTo(x, row[0]);
            due.is("reason() at " + row[0], x.reason(), row[1]);
        }
        due.is("sample()", x.sample(), 100004);
        due.is("the accepted place stays", x.count(6), 5000);
        Prepared.turnTo(x, 5500);
        Prepared.noiseOfAll(x, 1);
        due.is("the place found, not the shaft's", x.reason(), 4);
        Prepared.turnTo(x, 5501);
        Prepared.noiseOfAll(x, -1);
        due.is("the place found, not the shaft's", x.reason(), 0);
        due.is("sample()", x.sample(), 5500);
        due.is("the accepted place is the new one", x.count(6), 5500);
    }

    private static void stepEnds() {
        due.sentence("(1 to 4080, initially 500)");
        VernierEncoder x = Prepared.at(5000);
        x.sample();
        x.set(2, 1);
        x.turn(1);
        due.is("1 with 1", x.reason(), 0);
        x.turn(1);
        due.is("2 with 1", x.reason(), 4);
        x.turn(-3);
        due.is("-1 with 1", x.reason(), 0);
        x.turn(-1);
        due.is("-2 with 1", x.reason(), 4);
        x.set(2, 4080);
        x.turn(4082);
        due.is("4080 with 4080", x.reason(), 0);
        x.turn(1);
        due.is("4081 with 4080", x.reason(), 4);
        Prepared.turnTo(x, 920);
        due.is("-4080 with 4080", x.reason(), 0);
        x.turn(-1);
        due.is("-4081 with 4080", x.reason(), 4);
    }

    private static void stepByRemainders() {
        due.sentence("(by remainders by 65280)");
        VernierEncoder x = new VernierEncoder();
        x.sample();
        x.set(2, 1);
        Prepared.noiseOfAll(x, -1);
        due.is("from 0 to 65279", x.sample(), 65279);
        Prepared.noiseOfAll(x, 0);
        due.is("from 65279 to 0", x.sample(), 0);
        Prepared.noiseOfAll(x, -2);
        due.is("from 0 to 65278", x.sample(), 100004);
        x.set(2, 2);
        due.is("from 0 to 65278 with 2", x.sample(), 65278);
        x = Prepared.at(65279);
        x.sample();
        x.set(2, 1);
        Prepared.noiseOfAll(x, 2);
        due.is("from 65279 to 1", x.sample(), 100004);
        Prepared.noiseOfAll(x, 1);
        due.is("from 65279 to 0", x.sample(), 0);
    }

    private static void stepWithoutAnAcceptedPlace() {
        due.sentence("there is an accepted place");
        VernierEncoder x = Prepared.at(40000);
        x.set(2, 1);
        due.is("reason() without one", x.reason(), 0);
        due.is("sample() without one", x.sample(), 40000);
        x = new VernierEncoder();
        x.sample();
        x.turn(501);
        due.is("the accepted place 0 is one", x.reason(), 4);
        x.forget();
        due.is("none any more", x.reason(), 0);
        due.is("any place is fine then", x.sample(), 501);
    }

    private static void theFirstOfTheseReasons() {
        due.sentence("The sample is not accepted for the first of these reasons");
        VernierEncoder x = new VernierEncoder();
        x.set(3, 20);
        x.sample();
        x.sample();
        x.set(0, 0);
        x.noise(0, 1);
        Prepared.turnUncounted(x, 2040);
        due.is("1 ahead of 2", x.reason(), 1);
        due.is("sample()", x.sample(), 100001);
        x.noise(0, 0);
        due.is("2 ahead of 3", x.reason(), 2);
        due.is("sample()", x.sample(), 100002);
        Prepared.turnUncounted(x, -1020);
        due.is("3 ahead of 4", x.reason(), 3);
        due.is("sample()", x.sample(), 100003);
        x.set(3, 0);
        due.is("4", x.reason(), 4);
        due.is("sample()", x.sample(), 100004);
        x.set(2, 1020);
        due.is("none", x.reason(), 0);
        due.is("sample()", x.sample(), 1020);
    }

    private static void counterGetsTheFittingValue() {
        due.sentence("If the sample passes the test 2, the counter gets the fitting value.");
        VernierEncoder x = standing(5, 2);
        due.is("reason()", x.reason(), 0);
        due.is("reason() changes nothing", x.count(2), 5);
        due.is("accepted", x.sample(), 6120);
        due.is("the counter then", x.count(2), 6);
        Prepared.turnUncounted(x, 1020);
        due.is("for the reason 4", x.sample(), 100004);
        due.is("the counter then", x.count(2), 7);
        x.set(3, 3);
        x.sample();
        x.sample();
        Prepared.turnUncounted(x, -1020);
        due.is("for the reason 3", x.sample(), 100003);
        due.is("the counter then", x.count(2), 6);
    }

    private static void counterStaysOtherwise() {
        due.sentence("If the sample passes the test 2");
        VernierEncoder x = standing(5, 2);
        x.noise(0, 9);
        x.set(0, 4);
        due.is("for the reason 1", x.sample(), 100001);
        due.is("the counter then", x.count(2), 5);
        x = standing(5, 3);
        due.is("for the reason 2", x.sample(), 100002);
        due.is("the counter then", x.count(2), 5);
    }

    private static void acceptedPlace() {
        due.sentence("If the sample is accepted, the place found is the accepted place from now on (initially there"
                + " is none).");
        VernierEncoder x = new VernierEncoder();
        due.is("count(6)", x.count(6), -4);
        x.noise(0, 9);
        x.disk(0, 0, 9);
        due.is("sample() not accepted", x.sample(), 100001);
        due.is("still none", x.count(6), -4);
        x.noise(0, 0);
        x.disk(0, 0, 0);
        due.is("sample() accepted", x.sample(), 0);
        due.is("the place 0", x.count(6), 0);
        x.turn(500);
        due.is("until the next sample", x.count(6), 0);
        x.sample();
        due.is("the next", x.count(6), 500);
        x.turn(501);
        x.sample();
        due.is("not that of one that is not accepted", x.count(6), 500);
    }

    private static void sampleAnswer() {
        due.sentence("Returns the accepted place; 100000 plus the reason if it is not accepted");
        due.is("the least", new VernierEncoder().sample(), 0);
        due.is("the greatest", Prepared.at(65279).sample(), 65279);
        VernierEncoder x = Prepared.at(65279);
        x.set(2, 1);
        x.sample();
        x.turn(-2);
        due.is("reason 4", x.sample(), 100004);
        x.set(3, 31);
        x.sample();
        x.sample();
        due.is("reason 3", x.sample(), 100003);
        Prepared.turnUncounted(x, -2040);
        due.is("reason 2", x.sample(), 100002);
        x.set(0, 0);
        x.noise(1, 1);
        due.is("reason 1", x.sample(), 100001);
        x.power(0);
        due.is("without power", x.sample(), -2);
    }

    private static void reasonAnswer() {
        due.sentence("Returns the reason, 0 if it would be accepted; NOT_POSSIBLE if the power is off.");
        VernierEncoder x = new VernierEncoder();
        due.is("0", x.reason(), 0);
        x.sample();
        x.turn(501);
        due.is("4", x.reason(), 4);
        x.set(3, 31);
        x.sample();
        x.sample();
        due.is("3", x.reason(), 3);
        Prepared.turnUncounted(x, 2040);
        due.is("2", x.reason(), 2);
        x.set(0, 0);
        x.noise(2, 1);
        due.is("1", x.reason(), 1);
        x.power(0);
        due.is("-2", x.reason(), -2);
    }

    private static void forgetAnswer() {
        due.sentence("Returns 1 if there was an accepted place, else 0.");
        VernierEncoder x = new VernierEncoder();
        due.is("of a new object", x.forget(), 0);
        x.sample();
        due.is("of the place 0", x.forget(), 1);
        due.is("again", x.forget(), 0);
        x.power(0);
        due.is("without power", x.forget(), 0);
    }

    private static void forgetTheRow() {
        due.sentence("Forgets the accepted place, and how many samples in a row were apart.");
        VernierEncoder x = new VernierEncoder();
        x.set(3, 3);
        for (int times = 0; times < 2; times++) {
            due.is("the first", x.sample(), 0);
            due.is("the second", x.sample(), 0);
            due.is("reason() of the third", x.reason(), 3);
            x.forget();
            due.is("count(7)", x.count(7), 0);
            due.is("count(6)", x.count(6), -4);
        }
        x.turn(501);
        x.sample();
        x.undo();
        Prepared.turnUncounted(x, 2040);
        x.noise(0, 9);
        x.forget();
        due.is("without an accepted place", x.count(7), 0);
    }

    private static void apartAnswer() {
        due.sentence("Returns how far the accepted place is apart from the place of the shaft, by remainders by"
                + " 65280.");
        VernierEncoder x = new VernierEncoder();
        x.sample();
        int[][] rows = {{0, 0}, {1, 1}, {32639, 32639}, {32640, 32640}, {32641, 32639}, {65278, 2}, {65279, 1}};
        for (int[] row : rows) {
            Prepared.turnTo(x, row[0]);
            due.is("apart() at " + row[0], x.apart(), row[1]);
        }
        x = Prepared.at(65279);
        x.sample();
        int[][] down = {{65279, 0}, {65278, 1}, {32640, 32639}, {32639, 32640}, {32638, 32639}, {1, 2}, {0, 1}};
        for (int[] row : down) {
            Prepared.turnTo(x, row[0]);
            due.is("apart() from 65279 at " + row[0], x.apart(), row[1]);
        }
        x.power(0);
        due.is("apart() without power", x.apart(), 1);
    }

    private static void apartWithoutAnAcceptedPlace() {
        due.sentence("NOT_FOUND if there is no accepted place.");
        VernierEncoder x = new VernierEncoder();
        due.is("of a new object", x.apart(), -4);
        x.sample();
        due.is("of the accepted place 0", x.apart(), 0);
        x.undo();
        due.is("undone", x.apart(), -4);
        x.sample();
        x.forget();
        due.is("forgotten", x.apart(), -4);
    }
}
