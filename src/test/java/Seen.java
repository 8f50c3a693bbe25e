import java.util.ArrayList;
import java.util.List;
import java.util.function.Supplier;

/**
 * All that can be seen of an object after some calls, so that one call more can
 * be held to change nothing. An object answers for 512 calls alone, too few to
 * see all of it: for each part of it a new object is brought to the same point.
 * A part takes 407 calls, so that at most 104 may come before.
 */
final class Seen {
    interface Calls {
        void on(ParityDisks x);
    }

    private static final int DISKS = 5;
    private static final int HALVES = 2;

    private final Calls before;
    private final List<String> shown;

    Seen(Calls before) {
        this.before = before;
        this.shown = after(before);
    }

    void refusesArgument(String call, Calls made) {
        leavesAll(call, "throws.IllegalArgumentException", made);
    }

    void refusesState(String call, Calls made) {
        leavesAll(call, "throws.IllegalStateException", made);
    }

    void refusesLost(String call, Calls made) {
        leavesAll(call, "throws.UnsupportedOperationException", made);
    }

    void passesUnchanged(String call, Calls made) {
        leavesAll(call, "nothing", made);
    }

    private void leavesAll(String call, String want, Calls made) {
        ParityDisks x = new ParityDisks();
        before.on(x);
        Due.same(call, want, tried(made, x));
        List<String> then = after(y -> {
            before.on(y);
            tried(made, y);
        });
        for (int i = 0; i < shown.size(); i++) {
            Due.same("after " + call, shown.get(i), then.get(i));
        }
    }

    private static String tried(Calls made, ParityDisks x) {
        return Due.told(() -> Due.nothing(() -> made.on(x)));
    }

    private static List<String> after(Calls calls) {
        List<String> lines = new ArrayList<>();
        for (int disk = 0; disk < DISKS; disk++) {
            ParityDisks x = new ParityDisks();
            calls.on(x);
            showBlocks(lines, x, disk);
            showWhole(lines, x);
        }
        for (int half = 0; half < HALVES; half++) {
            ParityDisks x = new ParityDisks();
            calls.on(x);
            showPlaces(lines, x, half);
            showWhole(lines, x);
        }
        return lines;
    }

    private static void showBlocks(List<String> lines, ParityDisks x, int disk) {
        for (int block = 0; block < 100; block++) {
            for (int half = 0; half < HALVES; half++) {
                int b = block;
                int h = half;
                show(lines, "block(" + disk + ", " + b + ", " + h + ")", () -> "" + x.block(disk, b, h));
            }
        }
    }

    private static void showPlaces(List<String> lines, ParityDisks x, int half) {
        for (int place = 0; place < 400; place++) {
            int p = place;
            show(lines, "read(" + p + ", " + half + ")", () -> "" + x.read(p, half));
        }
    }

    private static void showWhole(List<String> lines, ParityDisks x) {
        for (int disk = 0; disk < DISKS; disk++) {
            int d = disk;
            show(lines, "state(" + d + ")", () -> "" + x.state(d));
        }
        show(lines, "lost()", () -> "" + x.lost());
        show(lines, "scrub()", () -> "" + x.scrub());
    }

    private static void show(List<String> lines, String call, Supplier<String> asked) {
        lines.add(call + " = " + Due.told(asked));
    }
}
