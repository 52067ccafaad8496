/** The edges that the document names for the corrections, promises 14 to 19: a test for each sentence. */
public final class CorrectionsEdgesTest {
    private static final int[] LENGTHS = {272, 255, 240};
    private static final int[] FAR_OFF = {Integer.MIN_VALUE, -4080, 4081, Integer.MAX_VALUE};
    private static final Due due = new Due();

    public static void main(String[] args) {
        tableOfANewObject();
        correctedBelow0AndBeyondThePeriod();
        theFirstAngleIsOfTheReadingsAsTheyAre();
        theSectorOfTheFirstAngle();
        aThirdAngleForAnotherSector();
        noFourthAngle();
        anotherSectorAcrossTheTurnsEnd();
        deviationOfTheCorrectedReadings();
        correctArguments();
        correctAnswer();
        correctionArguments();
        learnOfTheSectorsEnds();
        learnLessTheLength();
        learnAcrossThePeriodsEnd();
        learnReturnsTheChanged();
        lookArgument();
        lookOfTheAngles();
        lookOfTheShaftsAngle();
        surveyStep();
        surveyWhat();
        surveyEndsBelow4080();
        surveyFirstAngle();
        surveyNotFound();
        surveyGreatestDeviation();
        poorAtTheTolerance();
        poorForSomeTrack();
        poorCount();
        due.end();
    }

    private static void tableOfANewObject() {
        due.sentence("There is a table with a correction for each track and sector (-20 to 20, initially 0).");
        VernierEncoder x = new VernierEncoder();
        for (int track = 0; track < 3; track++) {
            for (int sector = 0; sector < 8; sector++) {
                due.is("correction of a new object", x.correction(track, sector), 100);
                x.correct(track, sector, -20);
                due.is("the least", x.correction(track, sector), 80);
                x.correct(track, sector, 20);
                due.is("the greatest", x.correction(track, sector), 120);
            }
        }
    }

    private static void correctedBelow0AndBeyondThePeriod() {
        due.sentence("the remainder of the reading minus the correction of its track and this sector, by the length"
                + " of the track's period");
        VernierEncoder x = new VernierEncoder();
        Prepared.correctAll(x, 0, 20);
        Prepared.correctAll(x, 7, 20);
        due.is("0 less 20", x.look(0), 4060);
        due.is("0 less 20", x.look(1), 0);
        x = Prepared.at(4079);
        Prepared.correctAll(x, 7, -20);
        Prepared.correctAll(x, 0, -20);
        due.is("4079 and 20", x.look(0), 19);
        due.is("4079 and 20", x.look(1), 0);
        for (int track = 0; track < 3; track++) {
            x = Prepared.at(LENGTHS[track] - 1);
            Prepared.correctAll(x, 0, -1);
            due.is("onto the period's length", x.look(0), LENGTHS[track]);
            due.is("onto the period's length", x.look(1), 0);
            x = Prepared.at(LENGTHS[track]);
            Prepared.correctAll(x, 0, 1);
            due.is("below the period's begin", x.look(0), LENGTHS[track] - 1);
            due.is("below the period's begin", x.look(1), 0);
        }
    }

    private static void theFirstAngleIsOfTheReadingsAsTheyAre() {
        due.sentence("first the angle that is found for the readings as they are");
        VernierEncoder x = Prepared.at(509);
        for (int sector = 0; sector < 8; sector++) {
            Prepared.correctAll(x, sector, 20);
        }
        due.is("look(2)", x.look(2), 509);
        Prepared.noiseOfAll(x, 1);
        due.is("look(2) with noise", x.look(2), 510);
        x = Prepared.at(4079);
        Prepared.noiseOfAll(x, 1);
        due.is("look(2) beyond the turn's end", x.look(2), 0);
        x = new VernierEncoder();
        Prepared.noiseOfAll(x, -1);
        due.is("look(2) below the turn's begin", x.look(2), 4079);
    }

    private static void theSectorOfTheFirstAngle() {
        due.sentence("the readings corrected by the sector of the first angle");
        for (int sector = 0; sector < 8; sector++) {
            int begin = sector * 510;
            VernierEncoder x = Prepared.at(begin);
            Prepared.correctAll(x, sector, -1);
            due.is("at the begin of the sector " + sector, x.look(0), begin + 1);
            x = Prepared.at(begin + 509);
            Prepared.correctAll(x, sector, 1);
            due.is("at the end of the sector " + sector, x.look(0), begin + 508);
            x = Prepared.at(begin + 508);
            Prepared.correctAll(x, sector, -1);
            due.is("onto the end of the sector " + sector, x.look(0), begin + 509);
            due.is("in the sector " + sector, x.look(3), 2);
        }
    }

    private static void aThirdAngleForAnotherSector() {
        due.sentence("if the sector of this second angle is another one, then a third angle, for the readings"
                + " corrected by the sector of the second one, otherwise the second angle is the last one, too");
        for (int sector = 0; sector < 8; sector++) {
            int before = (sector + 7) % 8;
            int begin = sector * 510;
            VernierEncoder x = Prepared.at(begin + 1);
            Prepared.correctAll(x, before, -7);
            Prepared.correctAll(x, sector, 1);
            due.is("the second angle at the sector's begin", x.look(0), begin);
            due.is("two angles", x.look(3), 2);
            Prepared.correctAll(x, sector, 2);
            due.is("the second angle below the sector's begin", x.look(0), (begin + 8) % 4080);
            due.is("three angles", x.look(3), 3);
        }
    }

    private static void noFourthAngle() {
        due.sentence("The result is the last angle");
        VernierEncoder x = Prepared.at(510);
        Prepared.correctAll(x, 1, 1);
        due.is("510, 509, 510", x.look(0), 510);
        due.is("three angles", x.look(3), 3);
        Prepared.correctAll(x, 0, -3);
        due.is("510, 509, 513", x.look(0), 513);
        due.is("three angles", x.look(3), 3);
        Prepared.correctAll(x, 0, 20);
        due.is("510, 509, 490", x.look(0), 490);
        due.is("three angles", x.look(3), 3);
    }

    private static void anotherSectorAcrossTheTurnsEnd() {
        due.sentence("if the sector of this second angle is another one");
        VernierEncoder x = new VernierEncoder();
        Prepared.correctAll(x, 0, 1);
        due.is("0, 4079, 0", x.look(0), 0);
        due.is("three angles", x.look(3), 3);
        Prepared.correctAll(x, 7, 5);
        due.is("0, 4079, 4075", x.look(0), 4075);
        x = Prepared.at(4079);
        Prepared.correctAll(x, 7, -1);
        due.is("4079, 0, 4079", x.look(0), 4079);
        due.is("three angles", x.look(3), 3);
        Prepared.correctAll(x, 0, -2);
        due.is("4079, 0, 1", x.look(0), 1);
    }

    private static void deviationOfTheCorrectedReadings() {
        due.sentence("its deviation is that from the readings as they were corrected for it");
        VernierEncoder x = Prepared.at(600);
        x.correct(0, 1, 2);
        due.is("of the second angle", x.look(1), 1);
        x.noise(0, 2);
        due.is("of the second angle, with noise", x.look(1), 0);
        x = Prepared.at(510);
        Prepared.correctAll(x, 1, 4);
        x.correct(0, 1, 8);
        due.is("of the third angle, not of the second", x.look(1), 0);
        x.correct(1, 0, 6);
        due.is("of the third angle", x.look(1), 3);
        due.is("the third angle", x.look(0), 507);
    }

    private static void correctArguments() {
        due.sentence("int correct(int track, int sector, int correction): INVALID_ARGUMENT if an argument is out of"
                + " range.");
        VernierEncoder x = new VernierEncoder();
        int[][] wrong = {{-1, 0, 0}, {3, 0, 0}, {-1, 7, 0}, {3, 7, 0}, {0, -1, 0}, {0, 8, 0}, {1, -1, 0}, {1, 8, 0},
            {2, -1, 0}, {2, 8, 0}, {0, 0, -21}, {0, 0, 21}, {2, 7, -21}, {2, 7, 21}, {-1, 8, 0}, {3, -1, 0}};
        for (int[] call : wrong) {
            due.is("correct" + java.util.Arrays.toString(call), x.correct(call[0], call[1], call[2]), -1);
        }
        for (int far : FAR_OFF) {
            due.is("correct(" + far + ", 0, 0)", x.correct(far, 0, 0), -1);
            due.is("correct(0, " + far + ", 0)", x.correct(0, far, 0), -1);
            due.is("correct(0, 0, " + far + ")", x.correct(0, 0, far), -1);
        }
        due.is("count(9)", x.count(9), 0);
        due.is("count(10)", x.count(10), 0);
    }

    private static void correctAnswer() {
        due.sentence("Returns the previous correction, 100 higher");
        VernierEncoder x = new VernierEncoder();
        int[][] ends = {{0, 0}, {0, 7}, {1, 0}, {1, 7}, {2, 0}, {2, 7}};
        for (int[] cell : ends) {
            due.is("of 0", x.correct(cell[0], cell[1], 20), 100);
            due.is("of 20", x.correct(cell[0], cell[1], -20), 120);
            due.is("of -20", x.correct(cell[0], cell[1], -20), 80);
        }
    }

    private static void correctionArguments() {
        due.sentence("int correction(int track, int sector): INVALID_ARGUMENT if an argument is out of range.");
        VernierEncoder x = new VernierEncoder();
        for (int track = -2; track <= 4; track++) {
            for (int sector = -2; sector <= 9; sector++) {
                boolean fine = track >= 0 && track <= 2 && sector >= 0 && sector <= 7;
                due.is("correction(" + track + ", " + sector + ")", x.correction(track, sector), fine ? 100 : -1);
            }
        }
        for (int far : FAR_OFF) {
            due.is("correction(" + far + ", 0)", x.correction(far, 0), -1);
            due.is("correction(0, " + far + ")", x.correction(0, far), -1);
        }
    }

    private static void learnOfTheSectorsEnds() {
        due.sentence("Lets the corrections of all tracks for the sector of the shaft's angle be what the readings are"
                + " too high there");
        for (int sector = 0; sector < 8; sector++) {
            int[] places = {4080 + sector * 510, 4080 + sector * 510 + 509};
            for (int place : places) {
                VernierEncoder x = Prepared.at(place);
                Prepared.noiseOfAll(x, -3);
                due.is("learn() at " + place, x.learn(), 3);
                due.is("no other sectors at " + place, x.count(9), 3);
                for (int track = 0; track < 3; track++) {
                    due.is("learned of the track " + track, x.correction(track, sector), 97);
                }
            }
        }
    }

    private static void learnLessTheLength() {
        due.sentence("less this length if it is more than half of it");
        int[] high = {-18, -17, -1, 0, 1, 17, 18};
        for (int excess : high) {
            VernierEncoder x = Prepared.at(1000);
            for (int track = 0; track < 3; track++) {
                x.noise(track, excess / 2);
                x.disk(track, 1, excess - excess / 2);
            }
            due.is("learn() of " + excess, x.learn(), excess == 0 ? 0 : 3);
            for (int track = 0; track < 3; track++) {
                due.is("learned of the track " + track, x.correction(track, 1), 100 + excess);
            }
        }
    }

    private static void learnAcrossThePeriodsEnd() {
        due.sentence("the remainder of (reading - angle) by the length of the period");
        for (int track = 0; track < 3; track++) {
            int[] places = {0, LENGTHS[track] - 1, LENGTHS[track], 4079, 4080, 65279};
            for (int place : places) {
                VernierEncoder x = Prepared.at(place);
                x.noise(track, 9);
                due.is("learn() of 9 at " + place, x.learn(), 1);
                due.is("learned 9 at " + place, x.correction(track, place % 4080 / 510), 109);
                x.noise(track, -9);
                due.is("learn() of -9 at " + place, x.learn(), 1);
                due.is("learned -9 at " + place, x.correction(track, place % 4080 / 510), 91);
            }
        }
    }

    private static void learnReturnsTheChanged() {
        due.sentence("Returns how many of the three corrections became another one");
        VernierEncoder x = new VernierEncoder();
        due.is("none of 0", x.learn(), 0);
        x.correct(0, 7, 5);
        due.is("none in this sector", x.learn(), 0);
        due.is("the other sector stays", x.correction(0, 7), 105);
        for (int track = 0; track < 3; track++) {
            x.noise(track, 1);
            due.is("one", x.learn(), 1);
            due.is("none again", x.learn(), 0);
        }
        Prepared.noiseOfAll(x, 0);
        due.is("three back to 0", x.learn(), 3);
        x.noise(0, 1);
        x.noise(2, 1);
        due.is("two", x.learn(), 2);
    }

    private static void lookArgument() {
        due.sentence("int look(int what): INVALID_ARGUMENT if what is out of range.");
        VernierEncoder x = Prepared.at(100);
        int[] answers = {-1, -1, 100, 0, 100, 2, 1, -1, -1};
        for (int what = -2; what <= 6; what++) {
            due.is("look(" + what + ")", x.look(what), answers[what + 2]);
        }
        for (int far : FAR_OFF) {
            due.is("look(" + far + ")", x.look(far), -1);
        }
    }

    private static void lookOfTheAngles() {
        due.sentence("3: the angles that were found, 2 or 3");
        VernierEncoder x = Prepared.at(530);
        due.is("without corrections", x.look(3), 2);
        Prepared.correctAll(x, 1, 20);
        due.is("onto the sector's begin", x.look(3), 2);
        x.turn(-1);
        due.is("one below it", x.look(3), 3);
        x.turn(-20);
        due.is("from the sector before", x.look(3), 2);
    }

    private static void lookOfTheShaftsAngle() {
        due.sentence("4: 1 if the last angle is that of the shaft, else 0");
        int[] places = {0, 4079, 4080, 61200, 65279};
        for (int place : places) {
            VernierEncoder x = Prepared.at(place);
            due.is("look(4) at " + place, x.look(4), 1);
            Prepared.noiseOfAll(x, 1);
            due.is("look(4) one above " + place, x.look(4), 0);
            Prepared.noiseOfAll(x, -1);
            due.is("look(4) one below " + place, x.look(4), 0);
            Prepared.noiseOfAll(x, 0);
            due.is("look(4) at " + place + " again", x.look(4), 1);
        }
    }

    private static void surveyStep() {
        due.sentence("by: 102 to 4080, from one angle to the next one below 4080");
        VernierEncoder x = new VernierEncoder();
        int[] fine = {102, 103, 4079, 4080};
        for (int by : fine) {
            due.is("survey(" + by + ", 0)", x.survey(by, 0), 0);
        }
        int[] wrong = {Integer.MIN_VALUE, -4080, -102, -1, 0, 1, 100, 101, 4081, 8160, Integer.MAX_VALUE};
        for (int by : wrong) {
            for (int what = 0; what < 3; what++) {
                due.is("survey(" + by + ", " + what + ")", x.survey(by, what), -1);
            }
        }
    }

    private static void surveyWhat() {
        due.sentence("what: 0: how many would be other ones; 1: the first angle for which it would be; 2: the"
                + " greatest deviation of the last angles");
        VernierEncoder x = new VernierEncoder();
        x.noise(0, 9);
        int[] answers = {-1, 40, 0, 5, -1};
        for (int what = -1; what <= 3; what++) {
            due.is("survey(102, " + what + ")", x.survey(102, what), answers[what + 1]);
        }
        for (int far : FAR_OFF) {
            due.is("survey(102, " + far + ")", x.survey(102, far), -1);
        }
    }

    private static void surveyEndsBelow4080() {
        due.sentence("for each angle from 0 on, by some places");
        VernierEncoder x = new VernierEncoder();
        Prepared.noiseOfAll(x, 1);
        int[][] counts = {{102, 40}, {103, 40}, {104, 40}, {105, 39}, {510, 8}, {1020, 4}, {1359, 4}, {1360, 3},
            {2039, 3}, {2040, 2}, {2041, 2}, {4079, 2}, {4080, 1}};
        for (int[] pair : counts) {
            due.is("survey(" + pair[0] + ", 0)", x.survey(pair[0], 0), pair[1]);
        }
    }

    private static void surveyFirstAngle() {
        due.sentence("1: the first angle for which it would be");
        VernierEncoder x = new VernierEncoder();
        Prepared.noiseOfAll(x, -1);
        due.is("the angle 0, found as 4079", x.survey(4080, 1), 0);
        Prepared.noiseOfAll(x, 0);
        x.disk(1, 7, 9);
        due.is("the last angle of all", x.survey(4079, 1), 4079);
        due.is("the first one of the last sector", x.survey(510, 1), 3570);
        x.disk(1, 2, 9);
        due.is("the first of two sectors", x.survey(510, 1), 1020);
        due.is("the first by 509", x.survey(509, 1), 1018 + 509);
        due.is("the place is of no account", x.turn(9999), 9999);
        due.is("the first by 509", x.survey(509, 1), 1018 + 509);
    }

    private static void surveyNotFound() {
        due.sentence("NOT_FOUND for 1 if there is none.");
        VernierEncoder x = new VernierEncoder();
        due.is("survey(102, 1)", x.survey(102, 1), -4);
        due.is("survey(4080, 1)", x.survey(4080, 1), -4);
        due.is("survey(101, 1)", x.survey(101, 1), -1);
        due.is("survey(4081, 1)", x.survey(4081, 1), -1);
        due.is("survey(102, 0)", x.survey(102, 0), 0);
        due.is("survey(102, 2)", x.survey(102, 2), 0);
        x.disk(0, 7, 9);
        due.is("survey(4080, 1) without the last sector", x.survey(4080, 1), -4);
        due.is("survey(4079, 1) with it", x.survey(4079, 1), 4079);
    }

    private static void surveyGreatestDeviation() {
        due.sentence("2: the greatest deviation of the last angles");
        VernierEncoder x = new VernierEncoder();
        x.disk(0, 0, 9);
        x.disk(0, 7, 3);
        due.is("of the first sector", x.survey(510, 2), 5);
        due.is("of the angle 0 alone", x.survey(4080, 2), 5);
        x.correct(0, 0, 9);
        due.is("of the last sector, the first one corrected", x.survey(510, 2), 2);
        due.is("of the angle 0 alone, corrected", x.survey(4080, 2), 0);
        x.correct(0, 7, 3);
        due.is("all corrected", x.survey(510, 2), 0);
    }

    private static void poorAtTheTolerance() {
        due.sentence("above the tolerance, or below its negative");
        int[] tolerances = {0, 1, 5, 18};
        for (int tolerance : tolerances) {
            VernierEncoder x = new VernierEncoder();
            x.set(0, tolerance);
            x.correct(1, 7, tolerance);
            due.is("just the negative of " + tolerance, x.poor(), 0);
            x.correct(1, 7, tolerance + 1);
            due.is("below the negative of " + tolerance, x.poor(), 1);
            x.correct(1, 7, -tolerance);
            due.is("just the tolerance of " + tolerance, x.poor(), 0);
            x.correct(1, 7, -tolerance - 1);
            due.is("above the tolerance of " + tolerance, x.poor(), 1);
        }
        VernierEncoder x = new VernierEncoder();
        x.noise(2, 9);
        x.disk(2, 0, 9);
        x.correct(2, 0, -20);
        x.set(0, 38);
        due.is("38 of 38", x.poor(), 0);
        x.set(0, 37);
        due.is("38 of 37", x.poor(), 1);
    }

    private static void poorForSomeTrack() {
        due.sentence("for some track the error of the disk and its noise, less the correction");
        for (int track = 0; track < 3; track++) {
            VernierEncoder x = new VernierEncoder();
            x.disk(track, 0, 5);
            due.is("error 5 of the track " + track, x.poor(), 0);
            x.noise(track, 1);
            due.is("error 5 and noise 1", x.poor(), 1);
            x.correct(track, 0, 1);
            due.is("error 5 and noise 1 less 1", x.poor(), 0);
            x.correct(track, 0, 12);
            due.is("error 5 and noise 1 less 12", x.poor(), 1);
            x.correct(track, 0, 11);
            due.is("error 5 and noise 1 less 11", x.poor(), 0);
            x.noise((track + 1) % 3, -9);
            due.is("noise of another track", x.poor(), 8);
        }
    }

    private static void poorCount() {
        due.sentence("Counts the sectors");
        VernierEncoder x = new VernierEncoder();
        due.is("of a new object", x.poor(), 0);
        for (int sector = 0; sector < 8; sector++) {
            Prepared.correctAll(x, sector, 6);
            due.is("a sector once for its three tracks", x.poor(), sector + 1);
        }
        x.set(0, 6);
        due.is("within a tolerance of 6", x.poor(), 0);
    }
}
