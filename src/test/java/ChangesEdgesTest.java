import java.util.Arrays;

/** The edges of changes and errors, promises 1 and 7, and what all calls have in common: a test for each sentence. */
public final class ChangesEdgesTest {
    private static final Due due = new Due();
    private static final Twins twins = new Twins(due);

    public static void main(String[] args) {
        aNewObject();
        objectsAreApart();
        changes();
        changesThatChangeNoNumber();
        samplesThatAreNotAccepted();
        callsThatOnlyAsk();
        textsAreNoChanges();
        everythingButTheText();
        atMost4States();
        theOldestIsDropped();
        statesAfterUndo();
        undoIsNoChange();
        undoAnswer();
        undoNotPossible();
        invalidRatherThanNotPossible();
        invalidRatherThanLimit();
        invalidRatherThanNotFound();
        refusedOfTheShaft();
        refusedOfTheDisk();
        refusedOfTheCorrections();
        refusedOfTheSamples();
        refusedOfTheTexts();
        numbersThatMayBeNegative();
        allOf512Calls();
        due.end();
    }

    private static void untouched(VernierEncoder x) {
    }

    /** All rows of the state differ from those of a new object, and four states are kept. */
    private static void used(VernierEncoder x) {
        x.disk(0, 1, 6);
        x.disk(2, 4, -4);
        x.noise(1, 2);
        x.turn(5000);
        x.learn();
        x.correct(2, 6, -3);
        x.set(0, 7);
        x.set(1, 3);
        x.set(2, 2000);
        x.set(3, 9);
        x.brownout(3);
        x.sample();
        Prepared.write(x, "00+1;11-20;");
        x.turn(300);
        x.power(0);
        x.charge(77);
        x.turn(2040);
        x.power(1);
        x.sample();
    }

    private static void usedOff(VernierEncoder x) {
        used(x);
        x.power(0);
    }

    private static void usedWithAFault(VernierEncoder x) {
        used(x);
        x.type('x');
    }

    private static void full(VernierEncoder x) {
        for (int times = 0; times < 11; times++) {
            x.brownout(9);
        }
        Prepared.write(x, "00+01;01+02;02+03;03+04;04+05;05+06;06+07;07+08;10+09;11+10;");
    }

    private static void aNewObject() {
        due.sentence("Creates an encoder as described.");
        VernierEncoder x = new VernierEncoder();
        int[] counts = {0, 0, 0, 1, 200, 0, -4, 0, 0, 0, 0, 0};
        for (int what = 0; what < counts.length; what++) {
            due.is("count(" + what + ")", x.count(what), counts[what]);
        }
        due.is("the tolerance", x.count(20), 5);
        due.is("the window", x.count(21), 2);
        due.is("the step", x.count(22), 500);
        due.is("the bias", x.count(23), 100);
        due.is("look(0)", x.look(0), 0);
        due.is("survey(102, 1)", x.survey(102, 1), -4);
        due.is("poor()", x.poor(), 0);
        due.is("reason()", x.reason(), 0);
        due.is("apart()", x.apart(), -4);
        due.is("fault(0)", x.fault(0), -4);
        due.is("undo()", x.undo(), -2);
    }

    private static void objectsAreApart() {
        due.sentence("Creates an encoder as described.");
        int[] first = Twins.shown(new VernierEncoder());
        VernierEncoder x = new VernierEncoder();
        VernierEncoder y = new VernierEncoder();
        used(x);
        full(x);
        due.holds("another object stays as it was", Arrays.equals(first, Twins.shown(y)));
        due.holds("a later object is as new", Arrays.equals(first, Twins.shown(new VernierEncoder())));
        due.is("undo() of another object", y.undo(), -2);
    }

    private static void changes() {
        due.sentence("The changes are the calls of turn, power, brownout, charge, disk, noise, set, correct, learn,"
                + " sample, forget and load that return no error.");
        twins.recorded("turn(1)", ChangesEdgesTest::untouched, x -> x.turn(1), 1);
        twins.recorded("turn(-4000)", ChangesEdgesTest::used, x -> x.turn(-4000), 3340);
        twins.recorded("power(0)", ChangesEdgesTest::untouched, x -> x.power(0), 1);
        twins.recorded("brownout(9)", ChangesEdgesTest::used, x -> x.brownout(9), 10);
        twins.recorded("charge(0)", ChangesEdgesTest::used, x -> x.charge(0), 75);
        twins.recorded("disk(0, 3, 9)", ChangesEdgesTest::used, x -> x.disk(0, 3, 9), 100);
        twins.recorded("noise(1, -9)", ChangesEdgesTest::used, x -> x.noise(1, -9), 102);
        twins.recorded("set(0, 40)", ChangesEdgesTest::used, x -> x.set(0, 40), 7);
        twins.recorded("set(1, 32)", ChangesEdgesTest::used, x -> x.set(1, 32), 3);
        twins.recorded("set(2, 1)", ChangesEdgesTest::used, x -> x.set(2, 1), 2000);
        twins.recorded("set(3, -31)", ChangesEdgesTest::used, x -> x.set(3, -31), 109);
        twins.recorded("correct(2, 6, 20)", ChangesEdgesTest::used, x -> x.correct(2, 6, 20), 97);
        twins.recorded("learn()", ChangesEdgesTest::used, x -> x.learn(), 2);
        twins.recorded("sample()", ChangesEdgesTest::untouched, x -> x.sample(), 0);
        twins.recorded("forget()", ChangesEdgesTest::used, x -> x.forget(), 1);
        twins.recorded("load()", ChangesEdgesTest::used, x -> x.load(), 2);
    }

    private static void changesThatChangeNoNumber() {
        due.sentence("The changes are the calls (..) that return no error.");
        twins.recorded("turn(0)", ChangesEdgesTest::untouched, x -> x.turn(0), 0);
        twins.recorded("power(1)", ChangesEdgesTest::untouched, x -> x.power(1), 1);
        twins.recorded("charge(200)", ChangesEdgesTest::untouched, x -> x.charge(200), 200);
        twins.recorded("disk(0, 0, 0)", ChangesEdgesTest::untouched, x -> x.disk(0, 0, 0), 100);
        twins.recorded("noise(0, 0)", ChangesEdgesTest::untouched, x -> x.noise(0, 0), 100);
        twins.recorded("set(0, 5)", ChangesEdgesTest::untouched, x -> x.set(0, 5), 5);
        twins.recorded("correct(0, 0, 0)", ChangesEdgesTest::untouched, x -> x.correct(0, 0, 0), 100);
        twins.recorded("learn()", ChangesEdgesTest::untouched, x -> x.learn(), 0);
        twins.recorded("forget()", ChangesEdgesTest::untouched, x -> x.forget(), 0);
        twins.recorded("load()", ChangesEdgesTest::untouched, x -> x.load(), 0);
    }

    private static void samplesThatAreNotAccepted() {
        due.sentence("(A sample that is not accepted is one, too.)");
        twins.recorded("sample() for the reason 1", x -> {
            x.noise(0, 9);
            x.set(0, 0);
        }, x -> x.sample(), 100001);
        twins.recorded("sample() for the reason 2", x -> Prepared.turnUncounted(x, 2040), x -> x.sample(), 100002);
        twins.recorded("sample() for the reason 3", x -> {
            x.set(3, 9);
            x.sample();
            x.sample();
        }, x -> x.sample(), 100003);
        twins.recorded("sample() for the reason 4", x -> {
            x.sample();
            Prepared.turnUncounted(x, 1020);
        }, x -> x.sample(), 100004);
    }

    private static void callsThatOnlyAsk() {
        due.sentence("Nothing changes.");
        twins.alike("count(0)", ChangesEdgesTest::used, x -> x.count(0), 7340);
        twins.alike("reading(0)", ChangesEdgesTest::used, x -> x.reading(0), 3260 % 272);
        twins.alike("found(1, 0, 0, 0)", ChangesEdgesTest::used, x -> x.found(1, 0, 0, 0), 0);
        twins.alike("byTwo(0, 0, 1, 0)", ChangesEdgesTest::used, x -> x.byTwo(0, 0, 1, 0), 0);
        twins.alike("correction(2, 6)", ChangesEdgesTest::used, x -> x.correction(2, 6), 97);
        twins.alike("look(3)", ChangesEdgesTest::used, x -> x.look(3), 2);
        twins.alike("survey(102, 0)", ChangesEdgesTest::untouched, x -> x.survey(102, 0), 0);
        twins.alike("survey(4080, 2)", ChangesEdgesTest::used, x -> x.survey(4080, 2), 1);
        twins.alike("poor()", ChangesEdgesTest::untouched, x -> x.poor(), 0);
        twins.alike("reason()", ChangesEdgesTest::untouched, x -> x.reason(), 0);
        twins.alike("reason() of a counter to be mended", x -> Prepared.turnUncounted(x, 1020), x -> x.reason(), 0);
        twins.alike("reason() of one apart", x -> x.set(3, 9), x -> x.reason(), 0);
        twins.alike("apart()", x -> x.sample(), x -> x.apart(), 0);
        twins.alike("fault(0)", ChangesEdgesTest::usedWithAFault, x -> x.fault(0), 11);
    }

    private static void textsAreNoChanges() {
        due.sentence("Restores everything but the text before the latest change.");
        VernierEncoder x = new VernierEncoder();
        x.type('a');
        x.clearText();
        x.type('b');
        due.is("type and clearText are no changes", x.count(10), 0);
        due.is("undo()", x.undo(), -2);
        x.turn(5);
        Prepared.write(x, "cd");
        due.is("undo()", x.undo(), 0);
        due.is("the place", x.count(0), 0);
        due.is("the text stays", x.count(11), 3);
        x.turn(5);
        x.clearText();
        x.undo();
        due.is("the empty text stays", x.count(11), 0);
        Prepared.write(x, "00+1;");
        x.load();
        x.clearText();
        Prepared.write(x, "01+1;02+1;");
        x.undo();
        due.is("the table is as before", x.count(9), 0);
        due.is("the text is as it is", x.count(11), 10);
        due.is("load() of the new text", x.load(), 2);
    }

    private static void everythingButTheText() {
        due.sentence("each change records everything before it but the text");
        VernierEncoder x = new VernierEncoder();
        used(x);
        int[] before = Twins.shown(x);
        x.load();
        x.forget();
        x.turn(-1234);
        x.disk(0, 6, 9);
        for (int left = 3; left >= 0; left--) {
            due.is("undo()", x.undo(), left);
        }
        int[] after = Twins.shown(x);
        after[10] = before[10];
        due.holds("four changes undone", Arrays.equals(before, after));
    }

    private static void atMost4States() {
        due.sentence("A history of at most 4 states is kept");
        VernierEncoder x = new VernierEncoder();
        for (int change = 1; change <= 10; change++) {
            x.turn(1);
            due.is("states after " + change + " changes", x.count(10), Math.min(4, change));
        }
        for (int left = 3; left >= 0; left--) {
            due.is("undo()", x.undo(), left);
        }
        due.is("undo() of a fifth", x.undo(), -2);
        due.is("the place six changes after the first", x.count(0), 6);
    }

    private static void theOldestIsDropped() {
        due.sentence("if there are 5 states then, the oldest one is dropped");
        for (int changes = 1; changes <= 9; changes++) {
            VernierEncoder x = new VernierEncoder();
            for (int change = 1; change <= changes; change++) {
                x.turn(change);
            }
            int place = changes * (changes + 1) / 2;
            for (int change = changes; change > Math.max(0, changes - 4); change--) {
                x.undo();
                place -= change;
                due.is("the place before the change " + change + " of " + changes, x.count(0), place);
            }
            due.is("no more", x.undo(), -2);
        }
    }

    private static void statesAfterUndo() {
        due.sentence("each change records everything before it but the text");
        VernierEncoder x = new VernierEncoder();
        for (int change = 0; change < 6; change++) {
            x.turn(10);
        }
        x.undo();
        x.undo();
        x.turn(1);
        due.is("the state of the new change", x.count(10), 3);
        x.turn(2);
        x.turn(3);
        due.is("no more than four", x.count(10), 4);
        int[] places = {43, 41, 40, 30};
        for (int place : places) {
            x.undo();
            due.is("the place", x.count(0), place);
        }
        due.is("none is left", x.undo(), -2);
        x.turn(7);
        due.is("undo() after none was left", x.undo(), 0);
        due.is("the place", x.count(0), 30);
    }

    private static void undoIsNoChange() {
        due.sentence("10: states that undo() can restore");
        VernierEncoder x = new VernierEncoder();
        x.turn(1);
        x.turn(1);
        x.undo();
        due.is("after undo()", x.count(10), 1);
        x.undo();
        due.is("after both", x.count(10), 0);
        x.undo();
        due.is("after one that is not possible", x.count(10), 0);
    }

    private static void undoAnswer() {
        due.sentence("Returns the number of states that are left");
        VernierEncoder x = new VernierEncoder();
        x.turn(1);
        due.is("of one", x.undo(), 0);
        x.turn(1);
        x.turn(1);
        x.turn(1);
        x.turn(1);
        x.turn(1);
        due.is("of four", x.undo(), 3);
        due.is("of three", x.undo(), 2);
        x.turn(1);
        due.is("of three again", x.undo(), 2);
    }

    private static void undoNotPossible() {
        due.sentence("NOT_POSSIBLE if there is none.");
        twins.alike("undo() of a new object", ChangesEdgesTest::untouched, x -> x.undo(), -2);
        twins.alike("undo() after refused calls", x -> {
            x.turn(-1);
            x.power(2);
            x.load();
            x.undo();
        }, x -> x.undo(), -2);
        twins.alike("undo() of all", x -> {
            x.turn(9);
            x.undo();
        }, x -> x.undo(), -2);
    }

    private static void invalidRatherThanNotPossible() {
        due.sentence("INVALID_ARGUMENT is returned rather than NOT_POSSIBLE");
        VernierEncoder x = new VernierEncoder();
        due.is("turn(-9999)", x.turn(-9999), -2);
        due.is("turn(-10000)", x.turn(-10000), -1);
        x = Prepared.at(65279);
        due.is("turn(9999)", x.turn(9999), -2);
        due.is("turn(10000)", x.turn(10000), -1);
        due.is("turn(2147483647)", x.turn(Integer.MAX_VALUE), -1);
    }

    private static void invalidRatherThanLimit() {
        due.sentence("INVALID_ARGUMENT is returned rather than NOT_POSSIBLE, NOT_POSSIBLE rather than LIMIT_REACHED");
        VernierEncoder x = new VernierEncoder();
        full(x);
        due.is("brownout(1)", x.brownout(1), -3);
        due.is("brownout(10)", x.brownout(10), -1);
        due.is("brownout(0)", x.brownout(0), -1);
        due.is("type(32)", x.type(32), -3);
        due.is("type(31)", x.type(31), -1);
        due.is("type(127)", x.type(127), -1);
    }

    private static void invalidRatherThanNotFound() {
        due.sentence("INVALID_ARGUMENT is returned rather than NOT_POSSIBLE, NOT_POSSIBLE rather than LIMIT_REACHED,"
                + " and LIMIT_REACHED rather than NOT_FOUND.");
        VernierEncoder x = new VernierEncoder();
        due.is("byTwo(0, 0, 1, 1)", x.byTwo(0, 0, 1, 1), -4);
        due.is("byTwo(0, 272, 1, 1)", x.byTwo(0, 272, 1, 1), -1);
        due.is("byTwo(0, 0, 0, 1)", x.byTwo(0, 0, 0, 1), -1);
        due.is("survey(102, 1)", x.survey(102, 1), -4);
        due.is("survey(101, 1)", x.survey(101, 1), -1);
        due.is("survey(4081, 1)", x.survey(4081, 1), -1);
        due.is("fault(1)", x.fault(1), -4);
        due.is("fault(2)", x.fault(2), -1);
        due.is("count(6)", x.count(6), -4);
        due.is("count(12)", x.count(12), -1);
    }

    private static void refusedOfTheShaft() {
        due.sentence("A call that returns an error changes nothing.");
        twins.alike("turn(10000)", ChangesEdgesTest::used, x -> x.turn(10000), -1);
        twins.alike("turn(-10000)", ChangesEdgesTest::used, x -> x.turn(-10000), -1);
        twins.alike("turn(-9999)", ChangesEdgesTest::used, x -> x.turn(-9999), -2);
        twins.alike("turn(-9999) off", ChangesEdgesTest::usedOff, x -> x.turn(-9999), -2);
        twins.alike("power(2)", ChangesEdgesTest::usedOff, x -> x.power(2), -1);
        twins.alike("power(-1)", ChangesEdgesTest::used, x -> x.power(-1), -1);
        twins.alike("brownout(0)", ChangesEdgesTest::used, x -> x.brownout(0), -1);
        twins.alike("brownout(10)", ChangesEdgesTest::used, x -> x.brownout(10), -1);
        twins.alike("brownout(9) at 99", ChangesEdgesTest::full, x -> x.brownout(9), -3);
        twins.alike("charge(1000)", ChangesEdgesTest::used, x -> x.charge(1000), -1);
        twins.alike("charge(-1)", ChangesEdgesTest::used, x -> x.charge(-1), -1);
        twins.alike("count(12)", ChangesEdgesTest::used, x -> x.count(12), -1);
        twins.alike("count(6)", ChangesEdgesTest::full, x -> x.count(6), -4);
    }

    private static void refusedOfTheDisk() {
        due.sentence("A call that returns an error changes nothing.");
        twins.alike("disk(3, 0, 0)", ChangesEdgesTest::used, x -> x.disk(3, 0, 0), -1);
        twins.alike("disk(0, 8, 0)", ChangesEdgesTest::used, x -> x.disk(0, 8, 0), -1);
        twins.alike("disk(0, 6, 10)", ChangesEdgesTest::used, x -> x.disk(0, 6, 10), -1);
        twins.alike("noise(3, 0)", ChangesEdgesTest::used, x -> x.noise(3, 0), -1);
        twins.alike("noise(0, -10)", ChangesEdgesTest::used, x -> x.noise(0, -10), -1);
        twins.alike("set(4, 0)", ChangesEdgesTest::used, x -> x.set(4, 0), -1);
        twins.alike("set(0, 41)", ChangesEdgesTest::used, x -> x.set(0, 41), -1);
        twins.alike("set(1, 33)", ChangesEdgesTest::used, x -> x.set(1, 33), -1);
        twins.alike("set(2, 0)", ChangesEdgesTest::used, x -> x.set(2, 0), -1);
        twins.alike("set(3, 32)", ChangesEdgesTest::used, x -> x.set(3, 32), -1);
        twins.alike("reading(3)", ChangesEdgesTest::used, x -> x.reading(3), -1);
        twins.alike("found(272, 0, 0, 0)", ChangesEdgesTest::used, x -> x.found(272, 0, 0, 0), -1);
        twins.alike("byTwo(0, 0, 0, 0)", ChangesEdgesTest::used, x -> x.byTwo(0, 0, 0, 0), -1);
        twins.alike("byTwo(0, 0, 1, 1)", ChangesEdgesTest::used, x -> x.byTwo(0, 0, 1, 1), -4);
    }

    private static void refusedOfTheCorrections() {
        due.sentence("A call that returns an error changes nothing.");
        twins.alike("correct(-1, 0, 0)", ChangesEdgesTest::used, x -> x.correct(-1, 0, 0), -1);
        twins.alike("correct(0, 8, 0)", ChangesEdgesTest::used, x -> x.correct(0, 8, 0), -1);
        twins.alike("correct(0, 6, 21)", ChangesEdgesTest::used, x -> x.correct(0, 6, 21), -1);
        twins.alike("correction(0, 8)", ChangesEdgesTest::used, x -> x.correction(0, 8), -1);
        twins.alike("look(5)", ChangesEdgesTest::used, x -> x.look(5), -1);
        twins.alike("survey(101, 0)", ChangesEdgesTest::used, x -> x.survey(101, 0), -1);
        twins.alike("survey(102, 3)", ChangesEdgesTest::used, x -> x.survey(102, 3), -1);
        twins.alike("survey(102, 1)", ChangesEdgesTest::full, x -> x.survey(102, 1), -4);
    }

    private static void refusedOfTheSamples() {
        due.sentence("A call that returns an error changes nothing.");
        twins.alike("sample() off", ChangesEdgesTest::usedOff, x -> x.sample(), -2);
        twins.alike("reason() off", ChangesEdgesTest::usedOff, x -> x.reason(), -2);
        twins.alike("apart() without an accepted place", ChangesEdgesTest::full, x -> x.apart(), -4);
    }

    private static void refusedOfTheTexts() {
        due.sentence("A call that returns an error changes nothing.");
        twins.alike("type(31)", ChangesEdgesTest::used, x -> x.type(31), -1);
        twins.alike("type(127)", ChangesEdgesTest::used, x -> x.type(127), -1);
        twins.alike("type(59) with 60", ChangesEdgesTest::full, x -> x.type(59), -3);
        twins.alike("fault(2)", ChangesEdgesTest::usedWithAFault, x -> x.fault(2), -1);
        twins.alike("fault(0) of a fine text", ChangesEdgesTest::used, x -> x.fault(0), -4);
        twins.alike("load() with a fault", ChangesEdgesTest::usedWithAFault, x -> x.load(), -2);
    }

    private static void numbersThatMayBeNegative() {
        due.sentence("(Numbers that may be negative are returned 100 higher.)");
        VernierEncoder x = new VernierEncoder();
        x.disk(0, 0, -9);
        x.noise(0, -9);
        x.correct(0, 0, -20);
        x.set(3, -31);
        due.is("the bias", x.count(23), 69);
        due.is("the correction", x.correction(0, 0), 80);
        due.is("the previous error", x.disk(0, 0, 0), 91);
        due.is("the previous noise", x.noise(0, 0), 91);
        due.is("the previous correction", x.correct(0, 0, 0), 80);
        due.is("the previous bias", x.set(3, 0), 69);
    }

    private static void allOf512Calls() {
        due.sentence("An object is used for at most 512 calls after it has been made");
        VernierEncoder x = new VernierEncoder();
        Prepared.noiseOfAll(x, 9);
        x.disk(0, 0, 9);
        int first = x.survey(102, 0);
        for (int call = 6; call <= 510; call++) {
            due.is("survey(102, 0) in the call " + call, x.survey(102, 0), first);
        }
        due.is("the call 511", x.undo(), 3);
        due.is("the call 512", x.count(10), 3);
        VernierEncoder y = new VernierEncoder();
        for (int call = 1; call <= 511; call++) {
            due.is("turn(127) in the call " + call, y.turn(127), 127 * call);
        }
        due.is("the call 512", y.undo(), 3);
        VernierEncoder z = new VernierEncoder();
        z.set(3, 31);
        for (int call = 2; call <= 511; call++) {
            due.is("sample() in the call " + call, z.sample(), call < 4 ? 0 : 100003);
        }
        due.is("count(7) in the call 512", z.count(7), 510);
    }
}
