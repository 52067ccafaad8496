import java.util.Random;

/** Runs of 512 calls, the same ones each time, answered by the program as by the model. */
public final class RandomRunsTest {
    private static final int RUNS = 300;
    private static final String[] NAMES = {"turn", "turn", "turn", "power", "brownout", "charge", "count", "count",
        "undo", "disk", "noise", "set", "reading", "found", "byTwo", "correct", "correction", "learn", "look",
        "survey", "poor", "sample", "sample", "sample", "reason", "forget", "apart", "type", "clearText", "fault",
        "load"};
    private static final Due due = new Due();

    public static void main(String[] args) {
        for (int run = 0; run < RUNS; run++) {
            run(run);
        }
        due.end();
    }

    private static void run(int run) {
        Random random = new Random(run);
        VernierEncoder program = new VernierEncoder();
        Model model = new Model();
        String[] names = run % 3 == 0 ? NAMES : favoured(random);
        boolean far = run % 5 == 0;
        for (int call = 0; call < 512; call++) {
            String name = names[random.nextInt(names.length)];
            if (name.equals("type") && random.nextInt(4) != 0) {
                call += typeEntry(run, random, program, model);
                continue;
            }
            int[] arguments = arguments(name, random, far);
            compare(run, call, name, arguments, program, model);
        }
    }

    /** A few kinds of calls that come often, so that their states go far. */
    private static String[] favoured(Random random) {
        String[] names = new String[12];
        for (int index = 0; index < names.length; index++) {
            names[index] = NAMES[random.nextInt(NAMES.length)];
        }
        names[0] = "turn";
        names[1] = "sample";
        return names;
    }

    private static int typeEntry(int run, Random random, VernierEncoder program, Model model) {
        int amount = random.nextInt(random.nextInt(6) == 0 ? 30 : 21);
        String entry = "" + random.nextInt(random.nextInt(12) == 0 ? 4 : 3)
                + random.nextInt(random.nextInt(12) == 0 ? 9 : 8) + "+-".charAt(random.nextInt(2))
                + (amount < 10 && random.nextBoolean() ? "0" : "") + amount + ";";
        for (int index = 0; index < entry.length(); index++) {
            compare(run, index, "type", new int[] {entry.charAt(index)}, program, model);
        }
        return entry.length() - 1;
    }

    private static void compare(int run, int call, String name, int[] a, VernierEncoder program, Model model) {
        String told = "run " + run + ", call " + call + ": " + name + java.util.Arrays.toString(a);
        due.is(told, answer(program, name, a), model.call(name, a));
    }

    private static int answer(VernierEncoder x, String name, int[] a) {
        switch (name) {
            case "turn": return x.turn(a[0]);
            case "power": return x.power(a[0]);
            case "brownout": return x.brownout(a[0]);
            case "charge": return x.charge(a[0]);
            case "count": return x.count(a[0]);
            case "undo": return x.undo();
            case "disk": return x.disk(a[0], a[1], a[2]);
            case "noise": return x.noise(a[0], a[1]);
            case "set": return x.set(a[0], a[1]);
            case "reading": return x.reading(a[0]);
            case "found": return x.found(a[0], a[1], a[2], a[3]);
            case "byTwo": return x.byTwo(a[0], a[1], a[2], a[3]);
            case "correct": return x.correct(a[0], a[1], a[2]);
            case "correction": return x.correction(a[0], a[1]);
            case "learn": return x.learn();
            case "look": return x.look(a[0]);
            case "survey": return x.survey(a[0], a[1]);
            case "poor": return x.poor();
            case "sample": return x.sample();
            case "reason": return x.reason();
            case "forget": return x.forget();
            case "apart": return x.apart();
            case "type": return x.type(a[0]);
            case "clearText": return x.clearText();
            case "fault": return x.fault(a[0]);
            default: return x.load();
        }
    }

    private static int[] arguments(String name, Random r, boolean far) {
        switch (name) {
            case "turn": return new int[] {far ? near(r, -9999, 9999) : near(r, -700, 900)};
            case "power": return new int[] {near(r, 0, 1)};
            case "brownout": return new int[] {near(r, 1, 9)};
            case "charge": return new int[] {r.nextBoolean() ? near(r, 0, 999) : near(r, 0, 5)};
            case "count": return new int[] {near(r, 0, r.nextBoolean() ? 11 : 23)};
            case "disk": return new int[] {near(r, 0, 2), near(r, 0, 7), small(r)};
            case "noise": return new int[] {near(r, 0, 2), small(r)};
            case "set": return setting(r);
            case "reading": return new int[] {near(r, 0, 2)};
            case "found": return readings(r);
            case "byTwo": return twoReadings(r);
            case "correct": return new int[] {near(r, 0, 2), near(r, 0, 7), near(r, -20, 20)};
            case "correction": return new int[] {near(r, 0, 2), near(r, 0, 7)};
            case "look": return new int[] {near(r, 0, 4)};
            case "survey": return new int[] {near(r, 102, r.nextInt(4) == 0 ? 200 : 4080), near(r, 0, 2)};
            case "type": return new int[] {r.nextBoolean() ? near(r, 32, 126) : near(r, '0', ';')};
            case "fault": return new int[] {near(r, 0, 1)};
            default: return new int[0];
        }
    }

    /** Mostly in the range, at times at its ends, just outside or far off. */
    private static int near(Random r, int least, int greatest) {
        switch (r.nextInt(20)) {
            case 0: return least;
            case 1: return greatest;
            case 2: return r.nextInt(4) == 0 ? least - 1 : least;
            case 3: return r.nextInt(4) == 0 ? greatest + 1 : greatest;
            case 4: return r.nextInt(8) == 0 ? r.nextInt() : least;
            default: return least + r.nextInt(greatest - least + 1);
        }
    }

    private static int small(Random r) {
        return r.nextBoolean() ? near(r, -9, 9) : near(r, -2, 2);
    }

    private static int[] setting(Random r) {
        int what = near(r, 0, 3);
        int[] least = {0, 0, 1, -31};
        int[] greatest = {40, 32, 4080, 31};
        int at = Math.floorMod(what, 4);
        return new int[] {what, near(r, least[at], greatest[at])};
    }

    private static int[] readings(Random r) {
        int angle = r.nextInt(4080);
        if (r.nextBoolean()) {
            return new int[] {near(r, 0, 271), near(r, 0, 254), near(r, 0, 239), near(r, 0, 1)};
        }
        return new int[] {(angle + r.nextInt(20)) % 272, (angle + r.nextInt(20)) % 255, (angle + r.nextInt(20)) % 240,
            near(r, 0, 1)};
    }

    private static int[] twoReadings(Random r) {
        int[] lengths = {272, 255, 240};
        int angle = r.nextInt(4080);
        int track = r.nextInt(3);
        int other = r.nextInt(3);
        if (r.nextInt(3) == 0) {
            return new int[] {near(r, 0, 2), near(r, 0, 240), near(r, 0, 2), near(r, 0, 255)};
        }
        return new int[] {track, angle % lengths[track], other, angle % lengths[other]};
    }
}
