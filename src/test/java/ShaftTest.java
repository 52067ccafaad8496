/** Promises 1 to 7: a new object, turn, power, brownout, charge, count, undo. */
public final class ShaftTest {
    private static final Due due = new Due();

    public static void main(String[] args) {
        aNewObject();
        turn();
        turnCountsQuarters();
        power();
        countingOnTheBattery();
        missedCrossings();
        brownout();
        charge();
        count();
        undo();
        undoRestoresEverythingButTheText();
        errorsAreNoChanges();
        due.end();
    }

    private static void aNewObject() {
        VernierEncoder x = new VernierEncoder();
        int[] first = {0, 0, 0, 1, 200, 0, -4, 0, 0, 0, 0, 0};
        for (int what = 0; what < first.length; what++) {
            due.is("new count(" + what + ")", x.count(what), first[what]);
        }
        int[] settings = {5, 2, 500, 100};
        for (int what = 0; what < settings.length; what++) {
            due.is("new count(" + (20 + what) + ")", x.count(20 + what), settings[what]);
        }
        for (int track = 0; track < 3; track++) {
            due.is("new reading", x.reading(track), 0);
            for (int sector = 0; sector < 8; sector++) {
                due.is("new correction", x.correction(track, sector), 100);
                due.is("new error", new VernierEncoder().disk(track, sector, 1), 100);
            }
            due.is("new noise", x.noise(track, 0), 100);
        }
        due.is("new undo", new VernierEncoder().undo(), -2);
        due.is("new fault", x.fault(0), -4);
    }

    private static void turn() {
        VernierEncoder x = new VernierEncoder();
        due.is("turn(0)", x.turn(0), 0);
        due.is("turn(-1)", x.turn(-1), -2);
        due.is("turn(-9999)", x.turn(-9999), -2);
        due.is("turn(-10000)", x.turn(-10000), -1);
        due.is("turn(10000)", x.turn(10000), -1);
        due.is("turn(MIN)", x.turn(Integer.MIN_VALUE), -1);
        due.is("turn(MAX)", x.turn(Integer.MAX_VALUE), -1);
        for (int turns = 1; turns <= 6; turns++) {
            due.is("turn(9999)", x.turn(9999), 9999 * turns);
        }
        due.is("turn(5286)", x.turn(5286), -2);
        due.is("turn(5285)", x.turn(5285), 65279);
        due.is("angle at the last place", x.count(1), 4079);
        due.is("counter at the last place", x.count(2), 63);
        due.is("turn(1) at the end", x.turn(1), -2);
        due.is("turn(10000) at the end", x.turn(10000), -1);
        due.is("turn(-9999)", x.turn(-9999), 55280);
    }

    private static void turnCountsQuarters() {
        VernierEncoder x = new VernierEncoder();
        x.turn(1019);
        due.is("below the bound", x.count(2), 0);
        x.turn(1);
        due.is("on the bound", x.count(2), 1);
        x.turn(-1);
        due.is("below the bound again", x.count(2), 0);
        x.turn(9999);
        due.is("ten bounds", x.count(2), 10);
        x.turn(-9999);
        due.is("ten bounds back", x.count(2), 0);
        due.is("charge with the power on", x.count(4), 200);
        x.power(0);
        x.charge(0);
        x.turn(1020);
        x.power(1);
        x.turn(-1020);
        due.is("below 0", x.count(2), 63);
        x.turn(1020);
        due.is("above 63", x.count(2), 0);
    }

    private static void power() {
        VernierEncoder x = new VernierEncoder();
        due.is("power(1)", x.power(1), 1);
        due.is("power(0)", x.power(0), 1);
        due.is("count(3)", x.count(3), 0);
        due.is("power(0)", x.power(0), 0);
        due.is("power(2)", x.power(2), -1);
        due.is("power(-1)", x.power(-1), -1);
        due.is("count(3)", x.count(3), 0);
        due.is("power(1)", x.power(1), 0);
        due.is("count(3)", x.count(3), 1);
        due.is("count(10)", x.count(10), 4);
    }

    private static void countingOnTheBattery() {
        VernierEncoder x = new VernierEncoder();
        x.power(0);
        x.charge(3);
        x.turn(2040);
        due.is("counter", x.count(2), 2);
        due.is("charge", x.count(4), 1);
        x.turn(3060);
        due.is("counter, the charge at its end", x.count(2), 3);
        due.is("charge", x.count(4), 0);
        x.turn(-5000);
        due.is("counter without charge", x.count(2), 3);
        due.is("charge", x.count(4), 0);
        x.charge(10);
        x.turn(1);
        due.is("no bound, no charge", x.count(4), 10);
        x.turn(-101);
        x.turn(1020);
        due.is("one bound", x.count(4), 9);
        x.turn(-1020);
        due.is("downward takes charge", x.count(4), 8);
        due.is("there and back", x.count(2), 3);
    }

    private static void missedCrossings() {
        VernierEncoder x = new VernierEncoder();
        x.brownout(3);
        x.turn(2040);
        due.is("none missed with the power on", x.count(2), 2);
        due.is("to be missed", x.count(5), 3);
        x.power(0);
        x.turn(2040);
        due.is("missed", x.count(2), 2);
        due.is("to be missed", x.count(5), 1);
        due.is("charge of the missed", x.count(4), 198);
        x.charge(0);
        x.turn(1020);
        due.is("without charge none less is missed", x.count(5), 1);
        due.is("and none counted", x.count(2), 2);
        x.charge(5);
        x.turn(-3060);
        due.is("missed, then counted", x.count(2), 0);
        due.is("to be missed", x.count(5), 0);
        due.is("charge", x.count(4), 2);
    }

    private static void brownout() {
        VernierEncoder x = new VernierEncoder();
        due.is("brownout(0)", x.brownout(0), -1);
        due.is("brownout(10)", x.brownout(10), -1);
        due.is("brownout(-1)", x.brownout(-1), -1);
        for (int times = 1; times <= 10; times++) {
            due.is("brownout(9)", x.brownout(9), 9 * times);
        }
        due.is("brownout(8)", x.brownout(8), 98);
        due.is("brownout(2)", x.brownout(2), -3);
        due.is("brownout(10) at the limit", x.brownout(10), -1);
        due.is("brownout(1)", x.brownout(1), 99);
        due.is("brownout(1) at the limit", x.brownout(1), -3);
        due.is("count(5)", x.count(5), 99);
    }

    private static void charge() {
        VernierEncoder x = new VernierEncoder();
        due.is("charge(999)", x.charge(999), 200);
        due.is("charge(1000)", x.charge(1000), -1);
        due.is("charge(-1)", x.charge(-1), -1);
        due.is("charge(0)", x.charge(0), 999);
        due.is("count(4)", x.count(4), 0);
    }

    private static void count() {
        VernierEncoder x = new VernierEncoder();
        int[] wrong = {-1, 12, 13, 19, 24, 100, Integer.MIN_VALUE, Integer.MAX_VALUE};
        for (int what : wrong) {
            due.is("count(" + what + ")", x.count(what), -1);
        }
        x.turn(4079);
        due.is("coarse sensor", x.count(8), 63);
        x.turn(1);
        due.is("coarse sensor", x.count(8), 0);
        x.turn(63);
        due.is("coarse sensor before its first step", x.count(8), 0);
        x.turn(1);
        due.is("coarse sensor after its first step", x.count(8), 1);
        due.is("angle", x.count(1), 64);
        x.set(3, -31);
        due.is("coarse sensor with a bias", x.count(8), 34);
        due.is("count(23)", x.count(23), 69);
        due.is("the counter in the second turn", x.count(2), 4);
        x.sample();
        x.forget();
        due.is("count(6)", x.count(6), -4);
        x.type('a');
        due.is("count(11)", x.count(11), 1);
        x.correct(0, 0, 5);
        x.correct(2, 7, -5);
        due.is("count(9)", x.count(9), 2);
        x.correct(0, 0, 0);
        due.is("count(9)", x.count(9), 1);
    }

    private static void undo() {
        VernierEncoder x = new VernierEncoder();
        for (int change = 1; change <= 6; change++) {
            x.turn(100);
            due.is("states", x.count(10), Math.min(change, 4));
        }
        for (int left = 3; left >= 0; left--) {
            due.is("undo()", x.undo(), left);
            due.is("place", x.count(0), 200 + 100 * left);
        }
        due.is("undo()", x.undo(), -2);
        due.is("place", x.count(0), 200);
        x.turn(1);
        x.turn(2);
        due.is("undo()", x.undo(), 1);
        x.turn(4);
        due.is("place", x.count(0), 205);
        due.is("undo()", x.undo(), 1);
        due.is("place", x.count(0), 201);
        due.is("undo()", x.undo(), 0);
        due.is("place", x.count(0), 200);
    }

    private static void undoRestoresEverythingButTheText() {
        VernierEncoder x = new VernierEncoder();
        x.power(0);
        x.undo();
        due.is("power", x.count(3), 1);
        x.brownout(4);
        x.undo();
        due.is("to be missed", x.count(5), 0);
        x.charge(7);
        x.undo();
        due.is("charge", x.count(4), 200);
        x.disk(1, 0, 9);
        x.undo();
        due.is("disk", x.reading(1), 0);
        x.noise(2, 9);
        x.undo();
        due.is("noise", x.reading(2), 0);
        for (int what = 0; what < 4; what++) {
            int before = x.count(20 + what);
            x.set(what, 17);
            x.undo();
            due.is("setting " + what, x.count(20 + what), before);
        }
        x.correct(2, 7, 9);
        x.undo();
        due.is("correction", x.correction(2, 7), 100);
        x.turn(1020);
        x.undo();
        due.is("counter", x.count(2), 0);
        x.sample();
        x.undo();
        due.is("accepted place", x.count(6), -4);
        x.set(3, 20);
        x.sample();
        x.undo();
        due.is("in a row", x.count(7), 0);
        x.sample();
        x.forget();
        x.undo();
        due.is("in a row", x.count(7), 1);
        due.is("accepted place", x.count(6), 0);
        x.type('0');
        x.undo();
        due.is("the text stays", x.count(11), 1);
        x.turn(5);
        x.clearText();
        x.undo();
        due.is("the text stays empty", x.count(11), 0);
    }

    private static void errorsAreNoChanges() {
        VernierEncoder x = new VernierEncoder();
        x.turn(-1);
        x.turn(10000);
        x.power(2);
        x.brownout(0);
        x.charge(1000);
        x.disk(3, 0, 0);
        x.noise(0, 10);
        x.set(0, 41);
        x.correct(0, 8, 0);
        x.type('x');
        x.load();
        x.fault(0);
        x.undo();
        x.look(0);
        x.survey(4080, 0);
        x.poor();
        x.reason();
        x.apart();
        x.clearText();
        due.is("states", x.count(10), 0);
        x.power(0);
        x.sample();
        x.reason();
        due.is("states", x.count(10), 1);
        x.load();
        due.is("an empty text loaded", x.count(10), 2);
        x.learn();
        due.is("learned nothing", x.count(10), 3);
        x.forget();
        due.is("forgot nothing", x.count(10), 4);
    }
}
