import java.util.Arrays;
import java.util.function.Consumer;
import java.util.function.ToIntFunction;

/** Two encoders made alike, one of which gets a call more: do they differ then? */
final class Twins {
    private final Due due;

    Twins(Due due) {
        this.due = due;
    }

    /** A call that answers as it should and leaves all that can be asked for, and all states of undo(), alone. */
    void alike(String name, Consumer<VernierEncoder> begin, ToIntFunction<VernierEncoder> call, int want) {
        VernierEncoder called = made(begin);
        VernierEncoder other = made(begin);
        due.is(name, call.applyAsInt(called), want);
        due.holds(name + " changes nothing", Arrays.equals(shown(called), shown(other)));
        for (int states = other.count(10); states > 0; states--) {
            due.is("undo() after " + name, called.undo(), states - 1);
            other.undo();
            due.holds("undo() to " + (states - 1) + " is alike after " + name,
                    Arrays.equals(shown(called), shown(other)));
        }
    }

    /** A call that is recorded, and undone restores all that can be asked for. */
    void recorded(String name, Consumer<VernierEncoder> begin, ToIntFunction<VernierEncoder> call, int want) {
        VernierEncoder called = made(begin);
        int states = called.count(10);
        int[] before = shown(called);
        due.is(name, call.applyAsInt(called), want);
        due.is("states after " + name, called.count(10), Math.min(4, states + 1));
        due.is("undo() of " + name, called.undo(), Math.min(3, states));
        int[] after = shown(called);
        // The oldest of five states was dropped, and doesn't come back.
        after[10] = before[10];
        due.holds("undo() restores what was before " + name, Arrays.equals(before, after));
    }

    private static VernierEncoder made(Consumer<VernierEncoder> begin) {
        VernierEncoder x = new VernierEncoder();
        begin.accept(x);
        return x;
    }

    /** The answers of all calls that only ask. */
    static int[] shown(VernierEncoder x) {
        int[] shown = new int[60];
        int next = 0;
        for (int what = 0; what <= 23; what++) {
            if (what <= 11 || what >= 20) {
                shown[next++] = x.count(what);
            }
        }
        for (int track = 0; track < 3; track++) {
            shown[next++] = x.reading(track);
            for (int sector = 0; sector < 8; sector++) {
                shown[next++] = x.correction(track, sector);
            }
        }
        for (int what = 0; what < 5; what++) {
            shown[next++] = x.look(what);
        }
        for (int what = 0; what < 3; what++) {
            shown[next++] = x.survey(510, what);
        }
        shown[next++] = x.poor();
        shown[next++] = x.reason();
        shown[next++] = x.apart();
        shown[next++] = x.fault(0);
        shown[next++] = x.fault(1);
        return shown;
    }
}
