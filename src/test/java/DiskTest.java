/** Promises 8 to 13: disk, noise, set, reading, found, byTwo. */
public final class DiskTest {
    private static final int[] LENGTHS = {272, 255, 240};
    private static final Due due = new Due();

    public static void main(String[] args) {
        disk();
        noise();
        set();
        settingsOutOfRange();
        reading();
        readingOfErrors();
        found();
        foundIsTheLowest();
        foundOutOfRange();
        byTwo();
        byTwoOutOfRange();
        due.end();
    }

    private static void disk() {
        VernierEncoder x = new VernierEncoder();
        due.is("disk(2, 7, 9)", x.disk(2, 7, 9), 100);
        due.is("disk(2, 7, -9)", x.disk(2, 7, -9), 109);
        due.is("disk(2, 7, 0)", x.disk(2, 7, 0), 91);
        due.is("disk(0, 7, 0)", x.disk(0, 7, 0), 100);
        due.is("disk(3, 0, 0)", x.disk(3, 0, 0), -1);
        due.is("disk(-1, 0, 0)", x.disk(-1, 0, 0), -1);
        due.is("disk(0, 8, 0)", x.disk(0, 8, 0), -1);
        due.is("disk(0, -1, 0)", x.disk(0, -1, 0), -1);
        due.is("disk(1, -1, 0)", x.disk(1, -1, 0), -1);
        due.is("disk(0, 0, 10)", x.disk(0, 0, 10), -1);
        due.is("disk(0, 0, -10)", x.disk(0, 0, -10), -1);
        for (int cell = 0; cell < 24; cell++) {
            x.disk(cell / 8, cell % 8, cell % 19 - 9);
        }
        for (int cell = 0; cell < 24; cell++) {
            due.is("error of cell " + cell, x.disk(cell / 8, cell % 8, 0), 91 + cell % 19);
        }
    }

    private static void noise() {
        VernierEncoder x = new VernierEncoder();
        due.is("noise(0, -9)", x.noise(0, -9), 100);
        due.is("noise(1, 9)", x.noise(1, 9), 100);
        due.is("noise(2, 4)", x.noise(2, 4), 100);
        due.is("noise(0, 0)", x.noise(0, 0), 91);
        due.is("noise(1, 0)", x.noise(1, 0), 109);
        due.is("noise(2, 0)", x.noise(2, 0), 104);
        due.is("noise(3, 0)", x.noise(3, 0), -1);
        due.is("noise(-1, 0)", x.noise(-1, 0), -1);
        due.is("noise(0, 10)", x.noise(0, 10), -1);
        due.is("noise(0, -10)", x.noise(0, -10), -1);
    }

    private static void set() {
        VernierEncoder x = new VernierEncoder();
        due.is("set(0, 0)", x.set(0, 0), 5);
        due.is("set(0, 40)", x.set(0, 40), 0);
        due.is("set(1, 0)", x.set(1, 0), 2);
        due.is("set(1, 32)", x.set(1, 32), 0);
        due.is("set(2, 1)", x.set(2, 1), 500);
        due.is("set(2, 4080)", x.set(2, 4080), 1);
        due.is("set(3, -31)", x.set(3, -31), 100);
        due.is("set(3, 31)", x.set(3, 31), 69);
        int[] settings = {40, 32, 4080, 131};
        for (int what = 0; what < 4; what++) {
            due.is("count(" + (20 + what) + ")", x.count(20 + what), settings[what]);
        }
    }

    private static void settingsOutOfRange() {
        VernierEncoder x = new VernierEncoder();
        int[][] wrong = {{0, -1}, {0, 41}, {1, -1}, {1, 33}, {2, 0}, {2, 4081}, {3, -32}, {3, 32},
            {-1, 0}, {4, 0}, {-1, 5}, {4, 5}, {20, 5}, {Integer.MIN_VALUE, 0}, {Integer.MAX_VALUE, 0}};
        for (int[] call : wrong) {
            due.is("set(" + call[0] + ", " + call[1] + ")", x.set(call[0], call[1]), -1);
        }
        due.is("states", x.count(10), 0);
    }

    private static void reading() {
        VernierEncoder x = new VernierEncoder();
        due.is("reading(3)", x.reading(3), -1);
        due.is("reading(-1)", x.reading(-1), -1);
        for (int turns = 0; turns < 60; turns++) {
            int angle = x.turn(1087) % 4080;
            for (int track = 0; track < 3; track++) {
                due.is("reading(" + track + ") at " + angle, x.reading(track), angle % LENGTHS[track]);
            }
        }
    }

    private static void readingOfErrors() {
        VernierEncoder x = new VernierEncoder();
        x.noise(0, -4);
        x.disk(0, 0, -5);
        x.disk(0, 1, 7);
        due.is("below 0", x.reading(0), 263);
        due.is("another track", x.reading(1), 0);
        x.turn(509);
        due.is("the sector 0 at its end", x.reading(0), 509 - 9 - 272);
        x.turn(1);
        due.is("the sector 1", x.reading(0), 510 + 3 - 272);
        x.turn(31);
        due.is("above the length", x.reading(0), 0);
        x.disk(2, 7, 9);
        x.noise(2, 9);
        x.turn(4080 - 541 - 2);
        due.is("the last sector", x.reading(2), 16);
        x.turn(2);
        due.is("the sector 0 of the next turn", x.reading(0), 263);
        due.is("noise in the sector 0", x.reading(2), 9);
    }

    private static void found() {
        VernierEncoder x = new VernierEncoder();
        for (int angle = 0; angle < 4080; angle++) {
            due.is("angle " + angle, x.found(angle % 272, angle % 255, angle % 240, 0), angle);
        }
        due.is("deviation of 4079", x.found(271, 254, 239, 1), 0);
        due.is("found(186, 235, 40, 1)", x.found(186, 235, 40, 1), 1);
        for (int seed = 0; seed < 40; seed++) {
            int[] r = {seed * 7919 % 272, seed * 104729 % 255, seed * 1299709 % 240};
            due.is("angle of seed " + seed, x.found(r[0], r[1], r[2], 0), nearest(r));
            due.is("deviation of seed " + seed, x.found(r[0], r[1], r[2], 1), deviation(nearest(r), r));
        }
    }

    private static void foundIsTheLowest() {
        VernierEncoder x = new VernierEncoder();
        due.is("found(1, 0, 0, 0)", x.found(1, 0, 0, 0), 0);
        due.is("found(1, 0, 0, 1)", x.found(1, 0, 0, 1), 1);
        due.is("found(271, 0, 0, 0)", x.found(271, 0, 0, 0), 0);
        due.is("found(270, 254, 239, 0)", x.found(270, 254, 239, 0), 4078);
        due.is("found(270, 254, 239, 1)", x.found(270, 254, 239, 1), 1);
        int[] far = {0, 120, 100};
        due.is("far readings", x.found(0, 120, 100, 0), nearest(far));
    }

    private static int nearest(int[] readings) {
        int nearest = 0;
        for (int angle = 1; angle < 4080; angle++) {
            if (deviation(angle, readings) < deviation(nearest, readings)) {
                nearest = angle;
            }
        }
        return nearest;
    }

    private static int deviation(int angle, int[] readings) {
        int greatest = 0;
        for (int track = 0; track < 3; track++) {
            int up = Math.floorMod(angle - readings[track], LENGTHS[track]);
            int down = Math.floorMod(readings[track] - angle, LENGTHS[track]);
            greatest = Math.max(greatest, Math.min(up, down));
        }
        return greatest;
    }

    private static void foundOutOfRange() {
        VernierEncoder x = new VernierEncoder();
        int[][] wrong = {{-1, 0, 0, 0}, {272, 0, 0, 0}, {0, -1, 0, 0}, {0, 255, 0, 0}, {0, 0, -1, 0},
            {0, 0, 240, 0}, {0, 0, 0, -1}, {0, 0, 0, 2}, {Integer.MAX_VALUE, 0, 0, 1}};
        for (int[] call : wrong) {
            due.is("found out of range", x.found(call[0], call[1], call[2], call[3]), -1);
        }
    }

    private static void byTwo() {
        VernierEncoder x = new VernierEncoder();
        for (int angle = 0; angle < 4080; angle += 37) {
            for (int pair = 0; pair < 6; pair++) {
                int track = pair / 2;
                int other = (track + 1 + pair % 2) % 3;
                int answer = x.byTwo(track, angle % LENGTHS[track], other, angle % LENGTHS[other]);
                due.is("byTwo of the tracks " + track + " and " + other, answer, angle);
            }
        }
        due.is("byTwo(0, 271, 1, 254)", x.byTwo(0, 271, 1, 254), 4079);
        due.is("byTwo(0, 0, 1, 1)", x.byTwo(0, 0, 1, 1), -4);
        due.is("byTwo(0, 0, 2, 8)", x.byTwo(0, 0, 2, 8), -4);
        due.is("byTwo(1, 0, 2, 14)", x.byTwo(1, 0, 2, 14), -4);
        due.is("byTwo(2, 0, 1, 17)", x.byTwo(2, 0, 1, 17), -4);
        x.noise(0, 5);
        x.disk(0, 0, 3);
        x.correct(0, 0, 2);
        due.is("byTwo without errors and noise", x.byTwo(0, 0, 1, 0), 0);
    }

    private static void byTwoOutOfRange() {
        VernierEncoder x = new VernierEncoder();
        int[][] wrong = {{3, 0, 1, 0}, {-1, 0, 1, 0}, {0, 0, 3, 0}, {0, 0, -1, 0}, {0, 0, 0, 0},
            {1, 5, 1, 6}, {0, 272, 1, 0}, {0, -1, 1, 0}, {1, 255, 0, 0}, {2, 240, 0, 0}, {0, 0, 1, 255},
            {0, 0, 2, 240}, {1, 0, 0, 272}, {1, 0, 0, -1}};
        for (int[] call : wrong) {
            due.is("byTwo out of range", x.byTwo(call[0], call[1], call[2], call[3]), -1);
        }
        due.is("the longest period's last reading", x.byTwo(0, 271, 2, 239), 4079);
    }
}
