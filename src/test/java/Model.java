import java.util.ArrayDeque;
import java.util.HashMap;
import java.util.HashSet;
import java.util.Map;
import java.util.Set;
import java.util.regex.Matcher;
import java.util.regex.Pattern;

/** The document told a second time, by other means than the program's, as slow as its words are. */
final class Model {
    private static final int[] LENGTHS = {272, 255, 240};
    private static final Pattern FORM = Pattern.compile("([0-9])([0-9])([+-])([0-9]{1,2});");
    // Shared by all models: what is found for three readings never changes.
    private static final Map<Integer, Integer> FOUND = new HashMap<>();

    private Map<String, Integer> now = new HashMap<>();
    private final ArrayDeque<Map<String, Integer>> before = new ArrayDeque<>();
    private String text = "";
    private int faultPosition;
    private int faultReason;
    private final Map<String, Integer> loaded = new HashMap<>();

    Model() {
        now.put("power", 1);
        now.put("charge", 200);
        now.put("set0", 5);
        now.put("set1", 2);
        now.put("set2", 500);
    }

    int call(String name, int[] a) {
        switch (name) {
            case "turn": return turn(a[0]);
            case "power": return in(a[0], 0, 1) ? change("power", a[0], 0) : -1;
            case "brownout": return brownout(a[0]);
            case "charge": return in(a[0], 0, 999) ? change("charge", a[0], 0) : -1;
            case "count": return count(a[0]);
            case "undo": return undo();
            case "disk": return isCell(a) && in(a[2], -9, 9) ? change("disk" + a[0] + a[1], a[2], 100) : -1;
            case "noise": return in(a[0], 0, 2) && in(a[1], -9, 9) ? change("noise" + a[0], a[1], 100) : -1;
            case "set": return set(a[0], a[1]);
            case "reading": return in(a[0], 0, 2) ? reading(a[0], get("place") % 4080) : -1;
            case "found": return found(a);
            case "byTwo": return byTwo(a);
            case "correct": return isCell(a) && in(a[2], -20, 20) ? change("fix" + a[0] + a[1], a[2], 100) : -1;
            case "correction": return isCell(a) ? get("fix" + a[0] + a[1]) + 100 : -1;
            case "learn": return learn();
            case "look": return look(a[0]);
            case "survey": return survey(a[0], a[1]);
            case "poor": return poor();
            case "sample": return sample(true);
            case "reason": return sample(false);
            case "forget": return forget();
            case "apart": return has("accepted") ? apart(get("accepted"), get("place"), 65280) : -4;
            case "type": return type(a[0]);
            case "clearText": return clearText();
            case "fault": return fault(a[0]);
            case "load": return load();
            default: throw new IllegalArgumentException(name);
        }
    }

    private static boolean in(int value, int least, int greatest) {
        return least <= value && value <= greatest;
    }

    private static boolean isCell(int[] a) {
        return in(a[0], 0, 2) && in(a[1], 0, 7);
    }

    private boolean has(String name) {
        return now.containsKey(name);
    }

    private int get(String name) {
        return now.getOrDefault(name, 0);
    }

    private void record() {
        before.addLast(new HashMap<>(now));
        if (before.size() == 5) {
            before.removeFirst();
        }
    }

    private int change(String name, int value, int higher) {
        record();
        int previous = get(name) + higher;
        now.put(name, value);
        return previous;
    }

    private int turn(int places) {
        if (!in(places, -9999, 9999)) {
            return -1;
        }
        if (!in(get("place") + places, 0, 65279)) {
            return -2;
        }
        record();
        int goal = get("place") + places;
        while (get("place") != goal) {
            int step = Integer.signum(places);
            int quarter = get("place") / 1020;
            now.merge("place", step, Integer::sum);
            if (get("place") / 1020 != quarter) {
                cross(step);
            }
        }
        return goal;
    }

    private void cross(int step) {
        if (get("power") == 1) {
            now.put("counter", Math.floorMod(get("counter") + step, 64));
        } else if (get("charge") > 0) {
            now.put("charge", get("charge") - 1);
            if (get("miss") > 0) {
                now.put("miss", get("miss") - 1);
            } else {
                now.put("counter", Math.floorMod(get("counter") + step, 64));
            }
        }
    }

    private int brownout(int crossings) {
        if (!in(crossings, 1, 9)) {
            return -1;
        }
        int more = get("miss") + crossings;
        if (more > 99) {
            return -3;
        }
        change("miss", more, 0);
        return more;
    }

    private int count(int what) {
        switch (what) {
            case 0: return get("place");
            case 1: return get("place") % 4080;
            case 2: return get("counter");
            case 3: return get("power");
            case 4: return get("charge");
            case 5: return get("miss");
            case 6: return has("accepted") ? get("accepted") : -4;
            case 7: return get("row");
            case 8: return coarse();
            case 9: return (int) now.keySet().stream().filter(k -> k.startsWith("fix") && now.get(k) != 0).count();
            case 10: return before.size();
            case 11: return text.length();
            case 20: return get("set0");
            case 21: return get("set1");
            case 22: return get("set2");
            case 23: return get("set3") + 100;
            default: return -1;
        }
    }

    private int undo() {
        if (before.isEmpty()) {
            return -2;
        }
        now = before.removeLast();
        return before.size();
    }

    private int set(int what, int value) {
        switch (what) {
            case 0: return in(value, 0, 40) ? change("set0", value, 0) : -1;
            case 1: return in(value, 0, 32) ? change("set1", value, 0) : -1;
            case 2: return in(value, 1, 4080) ? change("set2", value, 0) : -1;
            case 3: return in(value, -31, 31) ? change("set3", value, 100) : -1;
            default: return -1;
        }
    }

    private int reading(int track, int angle) {
        int raw = angle + get("disk" + track + angle / 510) + get("noise" + track);
        return Math.floorMod(raw, LENGTHS[track]);
    }

    private static int apart(int one, int other, int length) {
        return Math.min(Math.floorMod(one - other, length), Math.floorMod(other - one, length));
    }

    private static int deviation(int angle, int[] readings) {
        int greatest = 0;
        for (int track = 0; track < 3; track++) {
            greatest = Math.max(greatest, apart(angle, readings[track], LENGTHS[track]));
        }
        return greatest;
    }

    private static int nearest(int[] r) {
        int key = (r[0] * 255 + r[1]) * 240 + r[2];
        return FOUND.computeIfAbsent(key, k -> {
            int best = 0;
            int least = Integer.MAX_VALUE;
            for (int angle = 0; angle < 4080; angle++) {
                int deviation = deviation(angle, r);
                if (deviation < least) {
                    best = angle;
                    least = deviation;
                }
            }
            return best;
        });
    }

    private static int found(int[] a) {
        if (!in(a[0], 0, 271) || !in(a[1], 0, 254) || !in(a[2], 0, 239) || !in(a[3], 0, 1)) {
            return -1;
        }
        int[] readings = {a[0], a[1], a[2]};
        return a[3] == 0 ? nearest(readings) : deviation(nearest(readings), readings);
    }

    private static int byTwo(int[] a) {
        if (!in(a[0], 0, 2) || !in(a[2], 0, 2) || a[0] == a[2]) {
            return -1;
        }
        if (!in(a[1], 0, LENGTHS[a[0]] - 1) || !in(a[3], 0, LENGTHS[a[2]] - 1)) {
            return -1;
        }
        int angle = a[1];
        while (angle < 4080 && angle % LENGTHS[a[2]] != a[3]) {
            angle += LENGTHS[a[0]];
        }
        return angle < 4080 ? angle : -4;
    }

    private int learn() {
        int angle = get("place") % 4080;
        Map<String, Integer> learned = new HashMap<>();
        for (int track = 0; track < 3; track++) {
            int high = Math.floorMod(reading(track, angle) - angle, LENGTHS[track]);
            if (2 * high > LENGTHS[track]) {
                high -= LENGTHS[track];
            }
            if (!in(high, -20, 20)) {
                return -2;
            }
            learned.put("fix" + track + angle / 510, high);
        }
        record();
        int changed = 0;
        for (Map.Entry<String, Integer> one : learned.entrySet()) {
            changed += get(one.getKey()) == one.getValue() ? 0 : 1;
            now.put(one.getKey(), one.getValue());
        }
        return changed;
    }

    private int[] readings(int angle) {
        return new int[] {reading(0, angle), reading(1, angle), reading(2, angle)};
    }

    private int[] corrected(int[] readings, int sector) {
        int[] corrected = new int[3];
        for (int track = 0; track < 3; track++) {
            corrected[track] = Math.floorMod(readings[track] - get("fix" + track + sector), LENGTHS[track]);
        }
        return corrected;
    }

    /** The last angle, its deviation, the first angle, how many angles were found. */
    private int[] search(int angle) {
        int[] readings = readings(angle);
        int first = nearest(readings);
        int[] second = corrected(readings, first / 510);
        if (nearest(second) / 510 == first / 510) {
            return new int[] {nearest(second), deviation(nearest(second), second), first, 2};
        }
        int[] third = corrected(readings, nearest(second) / 510);
        return new int[] {nearest(third), deviation(nearest(third), third), first, 3};
    }

    private int look(int what) {
        int angle = get("place") % 4080;
        int[] search = search(angle);
        if (!in(what, 0, 4)) {
            return -1;
        }
        return what < 4 ? search[what] : search[0] == angle ? 1 : 0;
    }

    private int survey(int by, int what) {
        if (!in(by, 102, 4080) || !in(what, 0, 2)) {
            return -1;
        }
        int[] answers = {0, -4, 0};
        for (int angle = 0; angle < 4080; angle += by) {
            int[] search = search(angle);
            answers[2] = Math.max(answers[2], search[1]);
            if (search[0] != angle) {
                if (answers[0]++ == 0) {
                    answers[1] = angle;
                }
            }
        }
        return answers[what];
    }

    private int poor() {
        Set<Integer> sectors = new HashSet<>();
        for (int cell = 0; cell < 24; cell++) {
            String name = "" + cell / 8 + cell % 8;
            int left = get("disk" + name) + get("noise" + cell / 8) - get("fix" + name);
            if (left > get("set0") || left < -get("set0")) {
                sectors.add(cell % 8);
            }
        }
        return sectors.size();
    }

    private int coarse() {
        return Math.floorMod(get("place") % 4080 * 64 / 4080 + get("set3"), 64);
    }

    private int sample(boolean take) {
        if (get("power") == 0) {
            return -2;
        }
        Map<String, Integer> start = new HashMap<>(now);
        if (take) {
            record();
        }
        int reason = tried();
        int answer = reason == 0 ? get("accepted") : 100000 + reason;
        if (!take) {
            now = start;
        }
        return take ? answer : reason;
    }

    private int tried() {
        int[] search = search(get("place") % 4080);
        if (search[1] > get("set0")) {
            return 1;
        }
        int d = Math.floorMod(search[0] / 1020 - get("counter"), 4);
        if (d == 2) {
            return 2;
        }
        int fitting = Math.floorMod(get("counter") + (d == 1 ? 1 : d == 3 ? -1 : 0), 64);
        now.put("counter", fitting);
        boolean apart = apart(coarse(), search[0] * 64 / 4080, 64) > get("set1");
        now.put("row", apart ? get("row") + 1 : 0);
        if (apart && get("row") >= 3) {
            return 3;
        }
        int place = fitting / 4 * 4080 + search[0];
        if (has("accepted") && apart(place, get("accepted"), 65280) > get("set2")) {
            return 4;
        }
        now.put("accepted", place);
        return 0;
    }

    private int forget() {
        record();
        int had = has("accepted") ? 1 : 0;
        now.remove("accepted");
        now.put("row", 0);
        return had;
    }

    private int type(int character) {
        if (!in(character, 32, 126)) {
            return -1;
        }
        if (text.length() == 60) {
            return -3;
        }
        text += (char) character;
        return text.length();
    }

    private int clearText() {
        int length = text.length();
        text = "";
        return length;
    }

    /** How many entries there are; the fault's reason is 0 if there is none. */
    private int scan() {
        loaded.clear();
        faultPosition = 0;
        faultReason = 0;
        Matcher form = FORM.matcher(text);
        while (faultPosition < text.length()) {
            if (!form.region(faultPosition, text.length()).lookingAt()) {
                faultReason = 1;
            } else {
                faultReason = reasonOf(form);
            }
            if (faultReason != 0) {
                return 0;
            }
            faultPosition = form.end();
        }
        return loaded.size();
    }

    private int reasonOf(Matcher form) {
        String cell = "fix" + form.group(1) + form.group(2);
        int amount = Integer.parseInt(form.group(4));
        if ("012".indexOf(form.group(1)) < 0) {
            return 2;
        }
        if ("01234567".indexOf(form.group(2)) < 0) {
            return 3;
        }
        if (amount > 20) {
            return 4;
        }
        return loaded.put(cell, form.group(3).equals("-") ? -amount : amount) == null ? 0 : 5;
    }

    private int fault(int what) {
        scan();
        if (!in(what, 0, 1)) {
            return -1;
        }
        return faultReason == 0 ? -4 : what == 0 ? faultPosition : faultReason;
    }

    private int load() {
        int entries = scan();
        if (faultReason != 0) {
            return -2;
        }
        record();
        now.keySet().removeIf(name -> name.startsWith("fix"));
        now.putAll(loaded);
        return entries;
    }
}
