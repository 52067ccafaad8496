/** Promises 14 to 19: correct, correction, learn, look, survey, poor. */
public final class CorrectionsTest {
    private static final Due due = new Due();

    public static void main(String[] args) {
        correct();
        correctionsOutOfRange();
        learn();
        learnTheGreatest();
        look();
        lookThreeTimes();
        survey();
        surveyOutOfRange();
        poor();
        due.end();
    }

    private static void correct() {
        VernierEncoder x = new VernierEncoder();
        due.is("correct(0, 0, 20)", x.correct(0, 0, 20), 100);
        due.is("correct(0, 0, -20)", x.correct(0, 0, -20), 120);
        due.is("correct(0, 0, 1)", x.correct(0, 0, 1), 80);
        due.is("correction(0, 0)", x.correction(0, 0), 101);
        for (int cell = 0; cell < 24; cell++) {
            x.correct(cell / 8, cell % 8, cell - 12);
        }
        for (int cell = 0; cell < 24; cell++) {
            due.is("correction of cell " + cell, x.correction(cell / 8, cell % 8), 88 + cell);
        }
        due.is("count(9)", x.count(9), 23);
    }

    private static void correctionsOutOfRange() {
        VernierEncoder x = new VernierEncoder();
        int[][] wrong = {{-1, 0, 0}, {3, 0, 0}, {0, -1, 0}, {0, 8, 0}, {1, -1, 0}, {0, 0, 21}, {0, 0, -21}};
        for (int[] call : wrong) {
            due.is("correct out of range", x.correct(call[0], call[1], call[2]), -1);
        }
        due.is("correction(3, 0)", x.correction(3, 0), -1);
        due.is("correction(-1, 8)", x.correction(-1, 8), -1);
        due.is("correction(0, 8)", x.correction(0, 8), -1);
        due.is("correction(1, -1)", x.correction(1, -1), -1);
        due.is("states", x.count(10), 0);
    }

    private static void learn() {
        VernierEncoder x = new VernierEncoder();
        due.is("learn() without errors", x.learn(), 0);
        x.turn(1600);
        x.disk(0, 3, 4);
        x.disk(1, 3, -4);
        x.noise(1, 4);
        x.noise(2, -1);
        due.is("learn()", x.learn(), 2);
        due.is("correction(0, 3)", x.correction(0, 3), 104);
        due.is("correction(1, 3)", x.correction(1, 3), 100);
        due.is("correction(2, 3)", x.correction(2, 3), 99);
        due.is("correction(0, 2)", x.correction(0, 2), 100);
        due.is("learn() again", x.learn(), 0);
        x.correct(0, 3, 5);
        x.correct(1, 3, 5);
        x.correct(2, 3, 5);
        due.is("learn() of all", x.learn(), 3);
        due.is("correction(1, 3)", x.correction(1, 3), 100);
        x.undo();
        due.is("correction(1, 3) before", x.correction(1, 3), 105);
    }

    private static void learnTheGreatest() {
        for (int error = -9; error <= 9; error += 9) {
            VernierEncoder x = new VernierEncoder();
            for (int track = 0; track < 3; track++) {
                x.noise(track, error);
                x.disk(track, 0, error);
            }
            due.is("learn()", x.learn(), error == 0 ? 0 : 3);
            for (int track = 0; track < 3; track++) {
                due.is("learned of track " + track, x.correction(track, 0), 100 + 2 * error);
            }
            due.is("poor()", x.poor(), error == 0 ? 0 : 7);
            // Readings that are 18 too low are found in the sector 7, where nothing was learned.
            due.is("look(0)", x.look(0), error < 0 ? 4062 : 0);
        }
    }

    private static void look() {
        VernierEncoder x = new VernierEncoder();
        due.is("look(-1)", x.look(-1), -1);
        due.is("look(5)", x.look(5), -1);
        x.turn(9000);
        due.is("look(0)", x.look(0), 840);
        due.is("look(1)", x.look(1), 0);
        due.is("look(2)", x.look(2), 840);
        due.is("look(3)", x.look(3), 2);
        due.is("look(4)", x.look(4), 1);
        x.noise(0, 3);
        x.noise(1, 3);
        x.noise(2, 3);
        due.is("look(0) with noise", x.look(0), 843);
        due.is("look(4) with noise", x.look(4), 0);
        x.correct(0, 1, 3);
        x.correct(1, 1, 3);
        x.correct(2, 1, 2);
        due.is("look(2) is as the readings are", x.look(2), 843);
        due.is("look(0) is corrected", x.look(0), 840);
        due.is("look(1) is of the corrected ones", x.look(1), 1);
        due.is("states", x.count(10), 4);
    }

    private static void lookThreeTimes() {
        VernierEncoder x = new VernierEncoder();
        x.turn(512);
        for (int track = 0; track < 3; track++) {
            x.correct(track, 1, 5);
        }
        due.is("look(2) in the sector 1", x.look(2), 512);
        due.is("look(3)", x.look(3), 3);
        due.is("look(0) by the sector 0", x.look(0), 512);
        due.is("look(4)", x.look(4), 1);
        x.correct(0, 0, 2);
        due.is("look(1) by the sector 0", x.look(1), 1);
        due.is("look(0) by the sector 0", x.look(0), 511);
        for (int track = 0; track < 3; track++) {
            x.correct(track, 0, -20);
        }
        due.is("look(0) far", x.look(0), 532);
        due.is("look(3) far", x.look(3), 3);
        x.correct(0, 1, 2);
        x.correct(1, 1, 2);
        x.correct(2, 1, 2);
        due.is("look(3) at the bound of the same sector", x.look(3), 2);
        due.is("look(0) at the bound of the same sector", x.look(0), 510);
    }

    private static void survey() {
        VernierEncoder x = new VernierEncoder();
        due.is("survey(102, 0)", x.survey(102, 0), 0);
        due.is("survey(102, 1)", x.survey(102, 1), -4);
        due.is("survey(102, 2)", x.survey(102, 2), 0);
        for (int track = 0; track < 3; track++) {
            x.disk(track, 2, 1);
        }
        due.is("survey(102, 0)", x.survey(102, 0), 5);
        due.is("survey(102, 1)", x.survey(102, 1), 1020);
        due.is("survey(102, 2)", x.survey(102, 2), 0);
        due.is("survey(4080, 0)", x.survey(4080, 0), 0);
        due.is("survey(4079, 0)", x.survey(4079, 0), 0);
        due.is("survey(1021, 1)", x.survey(1021, 1), 1021);
        x.disk(1, 7, 9);
        due.is("survey(4079, 0) of the last sector", x.survey(4079, 0), 1);
        due.is("survey(4079, 1) of the last sector", x.survey(4079, 1), 4079);
        due.is("survey(4079, 2) of the last sector", x.survey(4079, 2), 5);
        due.is("survey(2040, 2) without the last sector", x.survey(2040, 2), 0);
        x.disk(0, 0, 9);
        due.is("survey(4080, 0) of the place 0", x.survey(4080, 0), 1);
        due.is("survey(4080, 1) of the place 0", x.survey(4080, 1), 0);
        due.is("the place stays", x.count(0), 0);
        due.is("states", x.count(10), 4);
    }

    private static void surveyOutOfRange() {
        VernierEncoder x = new VernierEncoder();
        int[][] wrong = {{101, 0}, {4081, 0}, {0, 0}, {-102, 1}, {102, -1}, {102, 3},
            {Integer.MAX_VALUE, 1}, {Integer.MIN_VALUE, 1}};
        for (int[] call : wrong) {
            due.is("survey out of range", x.survey(call[0], call[1]), -1);
        }
    }

    private static void poor() {
        VernierEncoder x = new VernierEncoder();
        due.is("poor()", x.poor(), 0);
        x.disk(0, 4, 5);
        x.disk(0, 5, -5);
        due.is("poor() at the tolerance", x.poor(), 0);
        x.disk(1, 4, 6);
        due.is("poor() above it", x.poor(), 1);
        x.disk(2, 4, 7);
        due.is("poor() of one sector once", x.poor(), 1);
        x.disk(2, 5, -6);
        due.is("poor() below its negative", x.poor(), 2);
        x.correct(2, 5, -1);
        due.is("poor() corrected", x.poor(), 1);
        x.noise(0, 6);
        due.is("poor() by noise", x.poor(), 7);
        x.set(0, 0);
        due.is("poor() without tolerance", x.poor(), 8);
        x.set(0, 40);
        due.is("poor() with the greatest tolerance", x.poor(), 0);
        x.correct(0, 7, -20);
        x.noise(0, 9);
        x.disk(0, 7, 9);
        x.set(0, 37);
        due.is("poor() of 38", x.poor(), 1);
        x.set(0, 38);
        due.is("poor() of 38 in its tolerance", x.poor(), 0);
    }
}
