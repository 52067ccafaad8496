/** Encoders that stand where a test begins. */
final class Prepared {
    private Prepared() {
    }

    /** An encoder whose shaft was turned to a place, its counter with it. */
    static VernierEncoder at(int place) {
        VernierEncoder x = new VernierEncoder();
        turnTo(x, place);
        return x;
    }

    static void turnTo(VernierEncoder x, int place) {
        while (x.count(0) != place) {
            int before = x.count(0);
            x.turn(Math.max(-9999, Math.min(9999, place - before)));
            if (x.count(0) == before) {
                throw new IllegalStateException("the shaft does not get to " + place);
            }
        }
    }

    /** Turns the shaft while nothing is counted; the power is on and the charge 0 then. */
    static void turnUncounted(VernierEncoder x, int places) {
        x.power(0);
        x.charge(0);
        x.turn(places);
        x.power(1);
    }

    /** A shaft that stands behind or ahead of its counter by quarters that were not counted. */
    static VernierEncoder uncounted(int counted, int quarters) {
        VernierEncoder x = at(counted * 1020);
        turnUncounted(x, quarters * 1020);
        return x;
    }

    static void noiseOfAll(VernierEncoder x, int noise) {
        for (int track = 0; track < 3; track++) {
            x.noise(track, noise);
        }
    }

    static void correctAll(VernierEncoder x, int sector, int correction) {
        for (int track = 0; track < 3; track++) {
            x.correct(track, sector, correction);
        }
    }

    static VernierEncoder typed(String text) {
        VernierEncoder x = new VernierEncoder();
        write(x, text);
        return x;
    }

    static void write(VernierEncoder x, String text) {
        for (int index = 0; index < text.length(); index++) {
            x.type(text.charAt(index));
        }
    }
}
