/** The edges that the document names for the disk, promises 8 to 13: a test for each sentence. */
public final class DiskEdgesTest {
    private static final int[] LENGTHS = {272, 255, 240};
    private static final int[] FAR_OFF = {Integer.MIN_VALUE, -100, 4080, Integer.MAX_VALUE};
    private static final Due due = new Due();

    public static void main(String[] args) {
        periods();
        errorsAndNoisesOfANewObject();
        remaindersBelow0();
        readingsBeyondThePeriod();
        distances();
        deviationIsTheGreatest();
        theLeastDeviation();
        theLowestOfSeveral();
        diskArguments();
        diskAnswer();
        noiseArguments();
        noiseAnswer();
        settings();
        settingRanges();
        setAnswer();
        readingArgument();
        foundReadings();
        foundWhat();
        byTwoTracks();
        byTwoReadings();
        byTwoNotFound();
        byTwoEnds();
        byTwoWithoutErrors();
        due.end();
    }

    private static void periods() {
        due.sentence("There are the tracks 0, 1 and 2, whose periods have the lengths 272, 255 and 240.");
        for (int track = 0; track < 3; track++) {
            int length = LENGTHS[track];
            due.is("reading of the track " + track + " at 0", new VernierEncoder().reading(track), 0);
            due.is("at the period's end", Prepared.at(length - 1).reading(track), length - 1);
            due.is("at the next period", Prepared.at(length).reading(track), 0);
            due.is("at the end of the turn", Prepared.at(4079).reading(track), length - 1);
            due.is("at the next turn", Prepared.at(4080).reading(track), 0);
            due.is("at the last place", Prepared.at(65279).reading(track), length - 1);
        }
    }

    private static void errorsAndNoisesOfANewObject() {
        due.sentence("Each track has for each sector an error of the disk (-9 to 9, initially 0), and a noise (-9 to"
                + " 9, initially 0).");
        VernierEncoder x = new VernierEncoder();
        for (int track = 0; track < 3; track++) {
            for (int sector = 0; sector < 8; sector++) {
                due.is("the first error", x.disk(track, sector, -9), 100);
                due.is("the least error", x.disk(track, sector, 9), 91);
                due.is("the greatest error", x.disk(track, sector, 0), 109);
            }
            due.is("the first noise", x.noise(track, -9), 100);
            due.is("the least noise", x.noise(track, 9), 91);
            due.is("the greatest noise", x.noise(track, 0), 109);
        }
    }

    private static void remaindersBelow0() {
        due.sentence("The remainder of a number by d is 0 to d - 1, also for numbers below 0.");
        for (int track = 0; track < 3; track++) {
            VernierEncoder x = new VernierEncoder();
            x.noise(track, -1);
            due.is("a reading of -1", x.reading(track), LENGTHS[track] - 1);
            x.noise(track, -9);
            x.disk(track, 0, -9);
            due.is("a reading of -18", x.reading(track), LENGTHS[track] - 18);
            x.turn(17);
            due.is("a reading of -1 by noise and error", x.reading(track), LENGTHS[track] - 1);
            x.turn(1);
            due.is("a reading of 0 by noise and error", x.reading(track), 0);
        }
        VernierEncoder x = new VernierEncoder();
        x.set(3, -1);
        due.is("a coarse sensor of -1", x.count(8), 63);
        x.set(3, -31);
        due.is("a coarse sensor of -31", x.count(8), 33);
    }

    private static void readingsBeyondThePeriod() {
        due.sentence("The reading of a track is the remainder of the angle plus the error of the angle's sector plus"
                + " the noise, by the length of its period.");
        for (int track = 0; track < 3; track++) {
            VernierEncoder x = Prepared.at(LENGTHS[track] - 1);
            x.noise(track, 1);
            due.is("just the length", x.reading(track), 0);
            x.noise(track, 9);
            x.disk(track, 0, 9);
            due.is("17 above the length", x.reading(track), 17);
            x.turn(4079 - (LENGTHS[track] - 1));
            due.is("the turn's end, without the error of the sector 0", x.reading(track), 8);
            x.turn(1);
            due.is("the turn's begin, with the error of the sector 0", x.reading(track), 18);
        }
    }

    private static void distances() {
        due.sentence("The distance of an angle from a reading of a track is the lesser one of the remainders of"
                + " (angle - reading) and of (reading - angle), by the length of its period.");
        VernierEncoder x = new VernierEncoder();
        for (int track = 0; track < 3; track++) {
            int[] above = {0, 0, 0};
            int[] below = {0, 0, 0};
            above[track] = 1;
            below[track] = LENGTHS[track] - 1;
            due.is("1 above 0 on the track " + track, x.found(above[0], above[1], above[2], 1), 1);
            due.is("1 below 0 on the track " + track, x.found(below[0], below[1], below[2], 1), 1);
            due.is("the angle of 1 below 0", x.found(below[0], below[1], below[2], 0), 0);
        }
        due.is("34 and 16 apart", x.found(0, 0, 112, 1), 34);
        due.is("its angle", x.found(0, 0, 112, 0), nearest(0, 0, 112));
    }

    private static void deviationIsTheGreatest() {
        due.sentence("The deviation of an angle from three readings, one of each track, is the greatest one of its"
                + " three distances.");
        VernierEncoder x = new VernierEncoder();
        for (int track = 0; track < 3; track++) {
            int[] readings = {1000 % 272, 1000 % 255, 1000 % 240};
            readings[track] += 4;
            due.is("the angle, track " + track, x.found(readings[0], readings[1], readings[2], 0), 1002);
            due.is("2 each, track " + track, x.found(readings[0], readings[1], readings[2], 1), 2);
            readings[(track + 1) % 3] -= 2;
            due.is("the angle between, track " + track, x.found(readings[0], readings[1], readings[2], 0), 1001);
            due.is("3 of 3, 1 and 3, track " + track, x.found(readings[0], readings[1], readings[2], 1), 3);
        }
    }

    private static void theLeastDeviation() {
        due.sentence("The angle found for three readings is the one with the least deviation");
        VernierEncoder x = new VernierEncoder();
        int[] angles = {0, 1, 239, 240, 254, 255, 271, 272, 509, 510, 1019, 1020, 2040, 4078, 4079};
        for (int angle : angles) {
            due.is("the angle " + angle, x.found(angle % 272, angle % 255, angle % 240, 0), angle);
            due.is("its deviation", x.found(angle % 272, angle % 255, angle % 240, 1), 0);
        }
        for (int step = 0; step < 120; step++) {
            int first = step * 89 % 272;
            int second = step * 101 % 255;
            int third = step * 67 % 240;
            int nearest = nearest(first, second, third);
            due.is("the angle of far readings", x.found(first, second, third, 0), nearest);
            due.is("its deviation", x.found(first, second, third, 1), deviation(nearest, first, second, third));
        }
    }

    private static void theLowestOfSeveral() {
        due.sentence("of several the lowest");
        VernierEncoder x = new VernierEncoder();
        due.is("0 or 1", x.found(1, 0, 0, 0), 0);
        due.is("0 or 1 by two tracks", x.found(1, 1, 0, 0), 0);
        due.is("4078 or 4079", x.found(270, 254, 239, 0), 4078);
        due.is("4079 or 0", x.found(0, 0, 239, 0), 0);
        due.is("4079 or 0 by two tracks", x.found(271, 254, 0, 0), 0);
        due.is("508 to 511, 1 each way at the bound of a sector", x.found(511 % 272, 509 % 255, 510 % 240, 0), 510);
        due.is("509 or 510", x.found(510 % 272, 509 % 255, 509 % 240, 0), 509);
    }

    private static int nearest(int first, int second, int third) {
        int nearest = 0;
        for (int angle = 1; angle < 4080; angle++) {
            if (deviation(angle, first, second, third) < deviation(nearest, first, second, third)) {
                nearest = angle;
            }
        }
        return nearest;
    }

    private static int deviation(int angle, int... readings) {
        int greatest = 0;
        for (int track = 0; track < 3; track++) {
            int up = Math.floorMod(angle - readings[track], LENGTHS[track]);
            greatest = Math.max(greatest, Math.min(up, (LENGTHS[track] - up) % LENGTHS[track]));
        }
        return greatest;
    }

    private static void diskArguments() {
        due.sentence("int disk(int track, int sector, int error): INVALID_ARGUMENT if an argument is out of range.");
        VernierEncoder x = new VernierEncoder();
        int[][] wrong = {{-1, 0, 0}, {3, 0, 0}, {-1, 7, 0}, {3, 7, 0}, {0, -1, 0}, {0, 8, 0}, {1, -1, 0}, {1, 8, 0},
            {2, -1, 0}, {2, 8, 0}, {0, 0, -10}, {0, 0, 10}, {2, 7, -10}, {2, 7, 10}, {-1, 8, 0}, {3, -1, 0}};
        for (int[] call : wrong) {
            due.is("disk" + java.util.Arrays.toString(call), x.disk(call[0], call[1], call[2]), -1);
        }
        for (int far : FAR_OFF) {
            due.is("disk(" + far + ", 0, 0)", x.disk(far, 0, 0), -1);
            due.is("disk(0, " + far + ", 0)", x.disk(0, far, 0), -1);
            due.is("disk(0, 0, " + far + ")", x.disk(0, 0, far), -1);
        }
        for (int cell = 0; cell < 24; cell++) {
            due.is("the error stays", x.disk(cell / 8, cell % 8, 0), 100);
        }
    }

    private static void diskAnswer() {
        due.sentence("Returns the previous error, 100 higher");
        VernierEncoder x = new VernierEncoder();
        int[][] ends = {{0, 0}, {0, 7}, {1, 0}, {1, 7}, {2, 0}, {2, 7}};
        for (int[] cell : ends) {
            due.is("of 0", x.disk(cell[0], cell[1], 9), 100);
            due.is("of 9", x.disk(cell[0], cell[1], -9), 109);
            due.is("of -9", x.disk(cell[0], cell[1], -9), 91);
        }
    }

    private static void noiseArguments() {
        due.sentence("int noise(int track, int noise): INVALID_ARGUMENT if an argument is out of range.");
        VernierEncoder x = new VernierEncoder();
        int[][] wrong = {{-1, 0}, {3, 0}, {0, -10}, {0, 10}, {2, -10}, {2, 10}, {-1, 10}, {3, -10}};
        for (int[] call : wrong) {
            due.is("noise" + java.util.Arrays.toString(call), x.noise(call[0], call[1]), -1);
        }
        for (int far : FAR_OFF) {
            due.is("noise(" + far + ", 0)", x.noise(far, 0), -1);
            due.is("noise(0, " + far + ")", x.noise(0, far), -1);
        }
        for (int track = 0; track < 3; track++) {
            due.is("the noise stays", x.noise(track, 0), 100);
        }
    }

    private static void noiseAnswer() {
        due.sentence("Returns the previous noise, 100 higher");
        VernierEncoder x = new VernierEncoder();
        for (int track = 0; track < 3; track++) {
            due.is("of 0", x.noise(track, 9), 100);
            due.is("of 9", x.noise(track, -9), 109);
            due.is("of -9", x.noise(track, -9), 91);
        }
    }

    private static void settings() {
        due.sentence("what: 0: the tolerance; 1: the window; 2: the step; 3: the bias");
        VernierEncoder x = new VernierEncoder();
        for (int what = -2; what <= 5; what++) {
            boolean known = what >= 0 && what <= 3;
            due.holds("set(" + what + ", 1)", known == (x.set(what, 1) >= 0));
        }
        for (int far : FAR_OFF) {
            due.is("set(" + far + ", 1)", x.set(far, 1), -1);
        }
        due.is("only those of the range are changes", x.count(10), 4);
    }

    private static void settingRanges() {
        due.sentence("value: the value, in the range of the setting");
        int[][] ranges = {{0, 40}, {0, 32}, {1, 4080}, {-31, 31}};
        for (int what = 0; what < 4; what++) {
            int least = ranges[what][0];
            int greatest = ranges[what][1];
            VernierEncoder x = new VernierEncoder();
            int before = x.count(20 + what);
            due.is("below the least of " + what, x.set(what, least - 1), -1);
            due.is("above the greatest of " + what, x.set(what, greatest + 1), -1);
            due.is("the lowest number for " + what, x.set(what, Integer.MIN_VALUE), -1);
            due.is("the highest number for " + what, x.set(what, Integer.MAX_VALUE), -1);
            due.is("the setting " + what + " stays", x.count(20 + what), before);
            due.is("the least of " + what, x.set(what, least), before);
            due.is("the greatest of " + what, x.set(what, greatest), what == 3 ? least + 100 : least);
            due.is("the greatest again of " + what, x.set(what, greatest), what == 3 ? greatest + 100 : greatest);
        }
    }

    private static void setAnswer() {
        due.sentence("Returns the previous value, of the bias 100 higher");
        VernierEncoder x = new VernierEncoder();
        due.is("set(3, -31)", x.set(3, -31), 100);
        due.is("set(3, -1)", x.set(3, -1), 69);
        due.is("set(3, 31)", x.set(3, 31), 99);
        due.is("set(3, 0)", x.set(3, 0), 131);
        due.is("set(0, 0)", x.set(0, 0), 5);
        due.is("set(0, 1)", x.set(0, 1), 0);
        due.is("set(1, 0)", x.set(1, 0), 2);
        due.is("set(1, 1)", x.set(1, 1), 0);
        due.is("set(2, 4080)", x.set(2, 4080), 500);
        due.is("set(2, 1)", x.set(2, 1), 4080);
    }

    private static void readingArgument() {
        due.sentence("Returns the reading; INVALID_ARGUMENT if track is out of range.");
        VernierEncoder x = Prepared.at(100);
        due.is("reading(-1)", x.reading(-1), -1);
        due.is("reading(0)", x.reading(0), 100);
        due.is("reading(2)", x.reading(2), 100);
        due.is("reading(3)", x.reading(3), -1);
        for (int far : FAR_OFF) {
            due.is("reading(" + far + ")", x.reading(far), -1);
        }
    }

    private static void foundReadings() {
        due.sentence("first: 0 to 271, of the track 0; second: 0 to 254, of the track 1; third: 0 to 239, of the"
                + " track 2");
        VernierEncoder x = new VernierEncoder();
        for (int track = 0; track < 3; track++) {
            int[] least = {271, 254, 239};
            int[] greatest = {0, 0, 0};
            least[track] = 0;
            greatest[track] = LENGTHS[track] - 1;
            for (int what = 0; what < 2; what++) {
                due.holds("the least", x.found(least[0], least[1], least[2], what) >= 0);
                due.holds("the greatest", x.found(greatest[0], greatest[1], greatest[2], what) >= 0);
                int[] outside = {-1, LENGTHS[track], Integer.MIN_VALUE, Integer.MAX_VALUE};
                for (int reading : outside) {
                    int[] readings = {0, 0, 0};
                    readings[track] = reading;
                    due.is("the reading " + reading + " of the track " + track,
                            x.found(readings[0], readings[1], readings[2], what), -1);
                }
            }
        }
    }

    private static void foundWhat() {
        due.sentence("what: 0: the angle; 1: its deviation");
        VernierEncoder x = new VernierEncoder();
        due.is("found(3, 1, 1, 0)", x.found(3, 1, 1, 0), 2);
        due.is("found(3, 1, 1, 1)", x.found(3, 1, 1, 1), 1);
        due.is("found(3, 1, 1, 2)", x.found(3, 1, 1, 2), -1);
        due.is("found(3, 1, 1, -1)", x.found(3, 1, 1, -1), -1);
        for (int far : FAR_OFF) {
            due.is("found(3, 1, 1, " + far + ")", x.found(3, 1, 1, far), -1);
        }
    }

    private static void byTwoTracks() {
        due.sentence("INVALID_ARGUMENT if an argument is out of range, or the tracks are the same");
        VernierEncoder x = new VernierEncoder();
        for (int track = -1; track <= 3; track++) {
            for (int other = -1; other <= 3; other++) {
                boolean fine = track >= 0 && track <= 2 && other >= 0 && other <= 2 && track != other;
                due.is("byTwo(" + track + ", 0, " + other + ", 0)", x.byTwo(track, 0, other, 0), fine ? 0 : -1);
            }
        }
        for (int far : FAR_OFF) {
            due.is("byTwo(" + far + ", 0, 1, 0)", x.byTwo(far, 0, 1, 0), -1);
            due.is("byTwo(1, 0, " + far + ", 0)", x.byTwo(1, 0, far, 0), -1);
            due.is("byTwo(" + far + ", 0, " + far + ", 0)", x.byTwo(far, 0, far, 0), -1);
        }
        due.is("the same track with two readings is no case of NOT_FOUND", x.byTwo(2, 1, 2, 0), -1);
    }

    private static void byTwoReadings() {
        due.sentence("its reading, from 0 to below the length of its period");
        VernierEncoder x = new VernierEncoder();
        for (int track = 0; track < 3; track++) {
            for (int more = 1; more < 3; more++) {
                int other = (track + more) % 3;
                int last = LENGTHS[track] - 1;
                due.is("the last readings", x.byTwo(track, last, other, LENGTHS[other] - 1), 4079);
                int[] outside = {-1, LENGTHS[track], Integer.MIN_VALUE, Integer.MAX_VALUE};
                for (int reading : outside) {
                    due.is("one of " + reading + ", track " + track, x.byTwo(track, reading, other, 0), -1);
                    due.is("two of " + reading + ", track " + track, x.byTwo(other, 0, track, reading), -1);
                }
            }
        }
    }

    private static void byTwoNotFound() {
        due.sentence("NOT_FOUND if there is no such angle.");
        VernierEncoder x = new VernierEncoder();
        int[][] pairs = {{0, 1, 17}, {0, 2, 16}, {1, 2, 15}};
        for (int[] pair : pairs) {
            for (int reading = 0; reading < 35; reading++) {
                boolean has = reading % pair[2] == 0;
                due.holds("tracks " + pair[0] + " and " + pair[1] + " with 0 and " + reading,
                        has == (x.byTwo(pair[0], 0, pair[1], reading) != -4));
                due.holds("tracks " + pair[1] + " and " + pair[0] + " with 0 and " + reading,
                        has == (x.byTwo(pair[1], 0, pair[0], reading) != -4));
            }
        }
    }

    private static void byTwoEnds() {
        due.sentence("Returns the angle that has just the readings of two tracks");
        VernierEncoder x = new VernierEncoder();
        int[] angles = {0, 1, 239, 240, 255, 272, 2039, 2040, 3808, 3825, 3840, 4078, 4079};
        for (int angle : angles) {
            for (int track = 0; track < 3; track++) {
                int other = (track + 1) % 3;
                due.is("the angle " + angle,
                        x.byTwo(track, angle % LENGTHS[track], other, angle % LENGTHS[other]), angle);
            }
        }
    }

    private static void byTwoWithoutErrors() {
        due.sentence("without errors and noise");
        VernierEncoder x = new VernierEncoder();
        Prepared.noiseOfAll(x, 9);
        for (int track = 0; track < 3; track++) {
            x.disk(track, 0, 9);
            x.disk(track, 7, -9);
        }
        due.is("byTwo at 0", x.byTwo(0, 0, 1, 0), 0);
        due.is("byTwo at 4079", x.byTwo(1, 254, 2, 239), 4079);
        due.is("byTwo at 509", x.byTwo(2, 29, 0, 237), 509);
    }
}
