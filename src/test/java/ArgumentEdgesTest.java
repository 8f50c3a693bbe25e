/**
 * Every sentence that bounds an argument, with a test of its own: the last that
 * is allowed and the first that is not, on both sides. That a refused call
 * changes nothing is RefusalEdgesTest's.
 */
public final class ArgumentEdgesTest {
    private static final int DISKS = 5;
    private static final int BLOCKS = 100;
    private static final int HALVES = 2;
    private static final int PLACES = 400;

    public static void main(String[] args) {
        promise2PlaceOfRead();
        promise2HalfOfRead();
        promise3PlaceOfWrite();
        promise3HalfOfWrite();
        promise3NumberOfWrite();
        promise4DiskOfFail();
        promise5DiskOfReplace();
        promise6DiskOfRebuild();
        promise6StripesOfRebuild();
        promise7DiskOfFlip();
        promise7BlockOfFlip();
        promise7HalfOfFlip();
        promise7BitsOfFlip();
        promise8DiskOfBlock();
        promise8BlockOfBlock();
        promise8HalfOfBlock();
        promise10DiskOfState();
        Due.end();
    }

    /** Arguments that are not 0..bound-1, some of which a remainder would bring back inside. */
    static int[] outside(int bound) {
        return new int[] {-1, bound, -2, bound + 1, -bound, 2 * bound, Integer.MIN_VALUE, Integer.MAX_VALUE};
    }

    /** "place is not 0..399" (read). */
    private static void promise2PlaceOfRead() {
        ParityDisks x = new ParityDisks();
        x.flip(1, 0, 0, 41);
        x.flip(3, 99, 0, 43);
        Due.answers("2: read(0, 0)", 41, () -> x.read(0, 0));
        Due.answers("2: read(399, 0)", 43, () -> x.read(399, 0));
        for (int place : outside(PLACES)) {
            Due.refusesArgument("2: read(" + place + ", 0)", () -> x.read(place, 0));
        }
    }

    /** "half not 0..1" (read). */
    private static void promise2HalfOfRead() {
        ParityDisks x = new ParityDisks();
        for (int place : new int[] {0, 399}) {
            int disk = Stripes.diskOf(place);
            x.flip(disk, place / 4, 0, 41);
            x.flip(disk, place / 4, 1, 42);
            Due.answers("2: read(" + place + ", 0)", 41, () -> x.read(place, 0));
            Due.answers("2: read(" + place + ", 1)", 42, () -> x.read(place, 1));
            for (int half : outside(HALVES)) {
                Due.refusesArgument("2: read(" + place + ", " + half + ")", () -> x.read(place, half));
            }
        }
    }

    /** "IllegalArgumentException likewise" (write): place is not 0..399. */
    private static void promise3PlaceOfWrite() {
        ParityDisks x = new ParityDisks();
        Due.passes("3: write(0, 0, 51)", () -> x.write(0, 0, 51));
        Due.passes("3: write(399, 0, 53)", () -> x.write(399, 0, 53));
        Due.answers("3: block(1, 0, 0), place 0", 51, () -> x.block(1, 0, 0));
        Due.answers("3: block(3, 99, 0), place 399", 53, () -> x.block(3, 99, 0));
        for (int place : outside(PLACES)) {
            Due.refusesArgument("3: write(" + place + ", 0, 1)", () -> x.write(place, 0, 1));
        }
    }

    /** "IllegalArgumentException likewise" (write): half not 0..1. */
    private static void promise3HalfOfWrite() {
        ParityDisks x = new ParityDisks();
        for (int place : new int[] {0, 399}) {
            int disk = Stripes.diskOf(place);
            Due.passes("3: write(" + place + ", 0, 51)", () -> x.write(place, 0, 51));
            Due.passes("3: write(" + place + ", 1, 52)", () -> x.write(place, 1, 52));
            Due.answers("3: half 0 of place " + place, 51, () -> x.block(disk, place / 4, 0));
            Due.answers("3: half 1 of place " + place, 52, () -> x.block(disk, place / 4, 1));
            for (int half : outside(HALVES)) {
                Due.refusesArgument("3: write(" + place + ", " + half + ", 1)", () -> x.write(place, half, 1));
            }
        }
    }

    /** "HALVES, 64 bits each": the least and the greatest number, 0 and all bits can be written. */
    private static void promise3NumberOfWrite() {
        long[] numbers = {Long.MIN_VALUE, Long.MAX_VALUE, -1, 1L << 32, 0xFFFFFFFFL, 1, 0};
        ParityDisks x = new ParityDisks();
        for (long v : numbers) {
            Due.passes("3: write(5, 1, " + v + ")", () -> x.write(5, 1, v));
            Due.answers("3: the number stands", v, () -> x.block(2, 1, 1));
            Due.answers("3: so does its parity", v, () -> x.block(1, 1, 1));
            Due.answers("3: read(5, 1)", v, () -> x.read(5, 1));
        }
        x.fail(2);
        for (long v : numbers) {
            Due.passes("3: write(5, 1, " + v + "), failed", () -> x.write(5, 1, v));
            Due.answers("3: read(5, 1), failed", v, () -> x.read(5, 1));
        }
    }

    /** "there is none" (fail). */
    private static void promise4DiskOfFail() {
        ParityDisks x = new ParityDisks();
        for (int disk : outside(DISKS)) {
            Due.refusesArgument("4: fail(" + disk + ")", () -> x.fail(disk));
        }
        Due.passes("4: fail(0)", () -> x.fail(0));
        Due.passes("4: fail(4)", () -> x.fail(4));
        Due.answers("4: state(0)", 1, () -> x.state(0));
        Due.answers("4: state(4)", 1, () -> x.state(4));
    }

    /** "there is none" (replace), also while every DISK that is there FAILED. */
    private static void promise5DiskOfReplace() {
        ParityDisks x = new ParityDisks();
        for (int disk = 0; disk < DISKS; disk++) {
            x.fail(disk);
        }
        for (int disk : outside(DISKS)) {
            Due.refusesArgument("5: replace(" + disk + ")", () -> x.replace(disk));
        }
        Due.passes("5: replace(0)", () -> x.replace(0));
        Due.passes("5: replace(4)", () -> x.replace(4));
        Due.answers("5: state(0)", 2, () -> x.state(0));
        Due.answers("5: state(4)", 2, () -> x.state(4));
    }

    /** "IllegalArgumentException: disk" (rebuild). */
    private static void promise6DiskOfRebuild() {
        for (int disk : new int[] {0, 4}) {
            ParityDisks x = new ParityDisks();
            Stripes.rebuildUpTo(x, disk, 7);
            for (int none : outside(DISKS)) {
                Due.refusesArgument("6: rebuild(" + none + ", 1)", () -> x.rebuild(none, 1));
            }
            Due.answers("6: rebuild(" + disk + ", 1)", 8, () -> x.rebuild(disk, 1));
        }
    }

    /** "n is below 0": 0 and the greatest int are not. */
    private static void promise6StripesOfRebuild() {
        ParityDisks x = new ParityDisks();
        Stripes.rebuildUpTo(x, 2, 7);
        for (int n : new int[] {-1, -2, -7, -8, -100, Integer.MIN_VALUE + 1, Integer.MIN_VALUE}) {
            Due.refusesArgument("6: rebuild(2, " + n + ")", () -> x.rebuild(2, n));
        }
        Due.answers("6: rebuild(2, 0)", 7, () -> x.rebuild(2, 0));
        Due.answers("6: rebuild(2, the greatest)", 100, () -> x.rebuild(2, Integer.MAX_VALUE));
    }

    /** "IllegalArgumentException: disk" (flip). */
    private static void promise7DiskOfFlip() {
        ParityDisks x = new ParityDisks();
        for (int disk : outside(DISKS)) {
            Due.refusesArgument("7: flip(" + disk + ", 50, 1, 1)", () -> x.flip(disk, 50, 1, 1));
        }
        Due.passes("7: flip(0, 50, 1, 61)", () -> x.flip(0, 50, 1, 61));
        Due.passes("7: flip(4, 50, 1, 62)", () -> x.flip(4, 50, 1, 62));
        Due.answers("7: block(0, 50, 1)", 61, () -> x.block(0, 50, 1));
        Due.answers("7: block(4, 50, 1)", 62, () -> x.block(4, 50, 1));
    }

    /** "IllegalArgumentException: block" (flip). */
    private static void promise7BlockOfFlip() {
        for (int disk = 0; disk < DISKS; disk++) {
            int d = disk;
            ParityDisks x = new ParityDisks();
            for (int block : outside(BLOCKS)) {
                Due.refusesArgument("7: flip(" + d + ", " + block + ", 0, 1)", () -> x.flip(d, block, 0, 1));
            }
            Due.passes("7: flip(" + d + ", 0, 0, 63)", () -> x.flip(d, 0, 0, 63));
            Due.passes("7: flip(" + d + ", 99, 1, 64)", () -> x.flip(d, 99, 1, 64));
            Due.answers("7: block(" + d + ", 0, 0)", 63, () -> x.block(d, 0, 0));
            Due.answers("7: block(" + d + ", 99, 1)", 64, () -> x.block(d, 99, 1));
        }
    }

    /** "IllegalArgumentException: half" (flip). */
    private static void promise7HalfOfFlip() {
        for (int block : new int[] {0, 99}) {
            ParityDisks x = new ParityDisks();
            for (int half : outside(HALVES)) {
                Due.refusesArgument("7: flip(2, " + block + ", " + half + ", 1)", () -> x.flip(2, block, half, 1));
            }
            Due.passes("7: flip(2, " + block + ", 0, 65)", () -> x.flip(2, block, 0, 65));
            Due.passes("7: flip(2, " + block + ", 1, 66)", () -> x.flip(2, block, 1, 66));
            Due.answers("7: block(2, " + block + ", 0)", 65, () -> x.block(2, block, 0));
            Due.answers("7: block(2, " + block + ", 1)", 66, () -> x.block(2, block, 1));
        }
    }

    /** "64 bits each": the first bit, the last, all and none can be flipped. */
    private static void promise7BitsOfFlip() {
        ParityDisks x = new ParityDisks();
        x.write(8, 0, 5);
        long stood = 5;
        for (long bits : new long[] {1, Long.MIN_VALUE, -1, 0, Long.MAX_VALUE, 1L << 32}) {
            stood ^= bits;
            Due.passes("7: flip(0, 2, 0, " + bits + ")", () -> x.flip(0, 2, 0, bits));
            Due.answers("7: block(0, 2, 0)", stood, () -> x.block(0, 2, 0));
            Due.answers("7: read(8, 0)", stood, () -> x.read(8, 0));
        }
    }

    /** "Likewise" (block): disk. */
    private static void promise8DiskOfBlock() {
        ParityDisks x = new ParityDisks();
        x.flip(0, 50, 1, 71);
        x.flip(4, 50, 1, 72);
        Due.answers("8: block(0, 50, 1)", 71, () -> x.block(0, 50, 1));
        Due.answers("8: block(4, 50, 1)", 72, () -> x.block(4, 50, 1));
        for (int disk : outside(DISKS)) {
            Due.refusesArgument("8: block(" + disk + ", 50, 1)", () -> x.block(disk, 50, 1));
        }
    }

    /** "Likewise" (block): block. */
    private static void promise8BlockOfBlock() {
        for (int disk = 0; disk < DISKS; disk++) {
            int d = disk;
            ParityDisks x = new ParityDisks();
            x.flip(d, 0, 0, 73);
            x.flip(d, 99, 1, 74);
            Due.answers("8: block(" + d + ", 0, 0)", 73, () -> x.block(d, 0, 0));
            Due.answers("8: block(" + d + ", 99, 1)", 74, () -> x.block(d, 99, 1));
            for (int block : outside(BLOCKS)) {
                Due.refusesArgument("8: block(" + d + ", " + block + ", 0)", () -> x.block(d, block, 0));
            }
        }
    }

    /** "Likewise" (block): half. */
    private static void promise8HalfOfBlock() {
        for (int block : new int[] {0, 99}) {
            ParityDisks x = new ParityDisks();
            x.flip(2, block, 0, 75);
            x.flip(2, block, 1, 76);
            Due.answers("8: block(2, " + block + ", 0)", 75, () -> x.block(2, block, 0));
            Due.answers("8: block(2, " + block + ", 1)", 76, () -> x.block(2, block, 1));
            for (int half : outside(HALVES)) {
                Due.refusesArgument("8: block(2, " + block + ", " + half + ")", () -> x.block(2, block, half));
            }
        }
    }

    /** "there is none" (state). */
    private static void promise10DiskOfState() {
        ParityDisks x = new ParityDisks();
        x.fail(0);
        x.fail(4);
        x.replace(4);
        Due.answers("10: state(0)", 1, () -> x.state(0));
        Due.answers("10: state(4)", 2, () -> x.state(4));
        for (int disk : outside(DISKS)) {
            Due.refusesArgument("10: state(" + disk + ")", () -> x.state(disk));
        }
    }
}
