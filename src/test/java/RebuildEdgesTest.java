/** Promises 4, 5 and 6: the edges of failing, replacing and rebuilding a DISK, a sentence at a time. */
public final class RebuildEdgesTest {
    private static final int DISKS = 5;
    private static final int[] EDGE_STRIPES = {0, 1, 4, 5, 50, 98, 99};

    public static void main(String[] args) {
        promise4FailOfSound();
        promise4FailOfFailed();
        promise4FailOfRebuilt();
        promise4FailOfAll();
        promise5AnotherDiskAllZero();
        promise5RebuiltUpToStripe0();
        promise5OthersStay();
        promise5AfterRebuiltAndFailedAgain();
        promise6NoStripe();
        promise6NoStripeThoughLost();
        promise6ExactlyNStripes();
        promise6AsManyAsAreLeft();
        promise6MoreThanAreLeft();
        promise6AsManyAsAnIntHolds();
        promise6WithHundredItIsSound();
        promise6BothHalvesAsTheyHaveToBe();
        promise6OutOfWhatStandsNotWhatStood();
        promise6WhatIsRebuiltIsNotWrittenAgain();
        promise6FirstStripeLost();
        promise6UpToTheFirstLost();
        promise6JustBeforeTheFirstLost();
        promise6LostToTheLastStripe();
        promise6ParityBlocksAreLostToo();
        promise6TwoThatWaitForEachOther();
        promise6TheOtherCatchesUp();
        Due.end();
    }

    private static void showsFilled(String what, ParityDisks x, int disk, int stripe) {
        for (int half = 0; half < 2; half++) {
            int h = half;
            Due.answers(what + ": block(" + disk + ", " + stripe + ", " + h + ")",
                Stripes.filled(disk, stripe, h), () -> x.block(disk, stripe, h));
        }
    }

    private static void shows(String what, long want, ParityDisks x, int disk, int stripe) {
        for (int half = 0; half < 2; half++) {
            int h = half;
            Due.answers(what + ": block(" + disk + ", " + stripe + ", " + h + ")",
                want, () -> x.block(disk, stripe, h));
        }
    }

    /** "A DISK FAILED (SOUND ... before)". */
    private static void promise4FailOfSound() {
        for (int disk = 0; disk < DISKS; disk++) {
            int d = disk;
            ParityDisks x = new ParityDisks();
            Due.passes("4: fail(" + d + ")", () -> x.fail(d));
            for (int other = 0; other < DISKS; other++) {
                int o = other;
                Due.answers("4: state(" + o + ") after fail(" + d + ")", o == d ? 1 : 0, () -> x.state(o));
            }
        }
    }

    /** "A DISK FAILED (... FAILED before)": it stays so, and nothing else is changed by it. */
    private static void promise4FailOfFailed() {
        for (int disk = 0; disk < DISKS; disk++) {
            int d = disk;
            Seen failed = new Seen(x -> {
                Stripes.fill(x, 7);
                x.fail(d);
            });
            failed.passesUnchanged("4: fail(" + d + ") again", x -> x.fail(d));
        }
    }

    /** "A DISK FAILED (... REBUILT ... before)", from the first STRIPE to the last. */
    private static void promise4FailOfRebuilt() {
        for (int upTo : new int[] {0, 1, 99}) {
            ParityDisks x = new ParityDisks();
            Stripes.fill(x, 0);
            Stripes.rebuildUpTo(x, 1, upTo);
            Due.answers("4: state(1)", 2 + upTo, () -> x.state(1));
            Due.passes("4: fail(1), rebuilt up to " + upTo, () -> x.fail(1));
            Due.answers("4: state(1)", 1, () -> x.state(1));
            Due.refusesState("4: block(1, 0, 0)", () -> x.block(1, 0, 0));
            Due.refusesState("4: rebuild(1, 1)", () -> x.rebuild(1, 1));
            Due.answers("4: read(0, 0)", Stripes.number(0, 0), () -> x.read(0, 0));
            x.fail(2);
            Due.refusesLost("4: read(0, 0), another failed", () -> x.read(0, 0));
        }
    }

    private static void promise4FailOfAll() {
        ParityDisks x = new ParityDisks();
        for (int disk = 0; disk < DISKS; disk++) {
            int d = disk;
            Due.passes("4: fail(" + d + ")", () -> x.fail(d));
        }
        for (int disk = 0; disk < DISKS; disk++) {
            int d = disk;
            Due.answers("4: state(" + d + ")", 1, () -> x.state(d));
        }
    }

    /** "Another DISK is there for it, all 0": every HALF of every BLOCK, whatever stood there. */
    private static void promise5AnotherDiskAllZero() {
        for (int disk = 0; disk < DISKS; disk++) {
            int d = disk;
            ParityDisks x = new ParityDisks();
            for (int block = 0; block < 100; block++) {
                x.flip(d, block, 0, -1);
                x.flip(d, block, 1, block + 1);
            }
            x.fail(d);
            Due.passes("5: replace(" + d + ")", () -> x.replace(d));
            for (int block = 0; block < 100; block++) {
                shows("5: all 0", 0, x, d, block);
            }
        }
    }

    /** "REBUILT up to STRIPE 0": STRIPE 0 is not before that, so what stands there does not count. */
    private static void promise5RebuiltUpToStripe0() {
        ParityDisks x = new ParityDisks();
        Stripes.fill(x, 0);
        x.fail(1);
        x.replace(1);
        Due.answers("5: state(1)", 2, () -> x.state(1));
        Due.answers("5: read(0, 0)", Stripes.number(0, 0), () -> x.read(0, 0));
        x.flip(1, 0, 0, 91);
        Due.answers("5: read(0, 0)", Stripes.number(0, 0), () -> x.read(0, 0));
        x.fail(4);
        Due.refusesLost("5: read(0, 0), another failed", () -> x.read(0, 0));
    }

    private static void promise5OthersStay() {
        for (int disk = 0; disk < DISKS; disk++) {
            ParityDisks x = new ParityDisks();
            for (int stripe : EDGE_STRIPES) {
                Stripes.fill(x, stripe);
            }
            x.fail(disk);
            x.replace(disk);
            for (int other = 0; other < DISKS; other++) {
                for (int stripe : EDGE_STRIPES) {
                    if (other != disk) {
                        showsFilled("5: another disk stays", x, other, stripe);
                    }
                }
            }
        }
    }

    /** A DISK that was REBUILT and FAILED again begins anew, at 0 and all 0. */
    private static void promise5AfterRebuiltAndFailedAgain() {
        for (int upTo : new int[] {1, 99, 100}) {
            ParityDisks x = new ParityDisks();
            Stripes.fill(x, 0);
            Stripes.fill(x, 98);
            Stripes.rebuildUpTo(x, 3, upTo);
            x.fail(3);
            Due.passes("5: replace(3) after " + upTo, () -> x.replace(3));
            Due.answers("5: state(3)", 2, () -> x.state(3));
            shows("5: all 0 again", 0, x, 3, 0);
            shows("5: all 0 again", 0, x, 3, 98);
            Due.answers("5: rebuild(3, 1)", 1, () -> x.rebuild(3, 1));
        }
    }

    /** "Up to n STRIPES more": none with 0, and nothing changes. */
    private static void promise6NoStripe() {
        for (int upTo : new int[] {0, 1, 50, 99}) {
            Seen.Calls before = x -> {
                Stripes.fill(x, upTo);
                Stripes.rebuildUpTo(x, 2, upTo);
                x.flip(2, upTo, 0, 92);
            };
            ParityDisks y = new ParityDisks();
            before.on(y);
            Due.answers("6: rebuild(2, 0)", upTo, () -> y.rebuild(2, 0));
            Due.answers("6: state(2)", 2 + upTo, () -> y.state(2));
            Due.answers("6: block(2, " + upTo + ", 0)", 92, () -> y.block(2, upTo, 0));
            new Seen(before).passesUnchanged("6: rebuild(2, 0) at " + upTo, x -> x.rebuild(2, 0));
        }
    }

    private static void promise6NoStripeThoughLost() {
        for (int upTo : new int[] {0, 1, 99}) {
            Seen.Calls before = x -> {
                Stripes.rebuildUpTo(x, 2, upTo);
                x.fail(0);
            };
            ParityDisks y = new ParityDisks();
            before.on(y);
            Due.answers("6: rebuild(2, 0), the next is lost", upTo, () -> y.rebuild(2, 0));
            new Seen(before).passesUnchanged("6: rebuild(2, 0) at lost " + upTo, x -> x.rebuild(2, 0));
        }
    }

    /** "Up to n STRIPES more are written": the last of them is, the one behind it is not. */
    private static void promise6ExactlyNStripes() {
        for (int disk = 0; disk < DISKS; disk++) {
            for (int from : new int[] {0, 1, 48}) {
                for (int n : new int[] {1, 2, 6}) {
                    exactlyNStripes(disk, from, n);
                }
            }
        }
    }

    private static void exactlyNStripes(int disk, int from, int n) {
        ParityDisks x = new ParityDisks();
        Stripes.fill(x, from + n - 1);
        Stripes.fill(x, from + n);
        Stripes.rebuildUpTo(x, disk, from);
        shows("6: not yet", 0, x, disk, from + n - 1);
        Due.answers("6: rebuild(" + disk + ", " + n + ") from " + from, from + n, () -> x.rebuild(disk, n));
        Due.answers("6: state(" + disk + ")", 2 + from + n, () -> x.state(disk));
        showsFilled("6: the last is written", x, disk, from + n - 1);
        shows("6: the one behind it is not", 0, x, disk, from + n);
    }

    private static void promise6AsManyAsAreLeft() {
        for (int from : EDGE_STRIPES) {
            ParityDisks x = new ParityDisks();
            Stripes.fill(x, 99);
            Stripes.rebuildUpTo(x, 0, from);
            Due.answers("6: rebuild(0, " + (100 - from) + ")", 100, () -> x.rebuild(0, 100 - from));
            Due.answers("6: state(0)", 0, () -> x.state(0));
            showsFilled("6: the last stripe", x, 0, 99);
        }
        for (int from : new int[] {0, 1, 50, 98}) {
            ParityDisks x = new ParityDisks();
            Stripes.fill(x, 99);
            Stripes.rebuildUpTo(x, 0, from);
            Due.answers("6: rebuild(0, " + (99 - from) + ")", 99, () -> x.rebuild(0, 99 - from));
            Due.answers("6: state(0)", 101, () -> x.state(0));
            shows("6: the last stripe is left", 0, x, 0, 99);
        }
    }

    private static void promise6MoreThanAreLeft() {
        for (int from : EDGE_STRIPES) {
            for (int n : new int[] {101 - from, 102, 500, 1000000}) {
                rebuildsAll(from, n);
            }
        }
    }

    /** The sum of n and where it is would go around below 0. */
    private static void promise6AsManyAsAnIntHolds() {
        for (int from : EDGE_STRIPES) {
            rebuildsAll(from, Integer.MAX_VALUE);
            rebuildsAll(from, Integer.MAX_VALUE - 1);
            rebuildsAll(from, Integer.MAX_VALUE - from);
            rebuildsAll(from, Integer.MAX_VALUE - 99);
        }
    }

    private static void rebuildsAll(int from, int n) {
        ParityDisks x = new ParityDisks();
        Stripes.fill(x, 99);
        Stripes.rebuildUpTo(x, 4, from);
        Due.answers("6: rebuild(4, " + n + ") from " + from, 100, () -> x.rebuild(4, n));
        Due.answers("6: state(4)", 0, () -> x.state(4));
        showsFilled("6: the last stripe", x, 4, 99);
        showsFilled("6: the disk before stays", x, 3, 99);
    }

    /** "with 100 it is SOUND; then 100 is told". */
    private static void promise6WithHundredItIsSound() {
        for (int disk = 0; disk < DISKS; disk++) {
            int d = disk;
            ParityDisks x = new ParityDisks();
            Stripes.rebuildUpTo(x, d, 99);
            Due.answers("6: state(" + d + ")", 101, () -> x.state(d));
            Due.answers("6: rebuild(" + d + ", 1)", 100, () -> x.rebuild(d, 1));
            Due.answers("6: state(" + d + ")", 0, () -> x.state(d));
            Due.refusesState("6: rebuild(" + d + ", 1), sound", () -> x.rebuild(d, 1));
            Due.refusesState("6: replace(" + d + "), sound", () -> x.replace(d));
            x.fail((d + 1) % DISKS);
            Due.answers("6: lost(), one failed", 0, x::lost);
        }
    }

    /** "are written as they HAVE to be": PLACES and PARITY, both HALVES. */
    private static void promise6BothHalvesAsTheyHaveToBe() {
        for (int disk = 0; disk < DISKS; disk++) {
            ParityDisks x = new ParityDisks();
            for (int stripe : EDGE_STRIPES) {
                Stripes.fill(x, stripe);
            }
            Stripes.rebuildUpTo(x, disk, 0);
            for (int stripe : EDGE_STRIPES) {
                x.flip(disk, stripe, stripe % 2, 93);
            }
            x.rebuild(disk, 100);
            for (int stripe : EDGE_STRIPES) {
                showsFilled("6: rebuilt", x, disk, stripe);
            }
            Due.answers("6: scrub()", 0, x::scrub);
        }
    }

    /** The exclusive or of the other four, though one of them changed by itself. */
    private static void promise6OutOfWhatStandsNotWhatStood() {
        ParityDisks x = new ParityDisks();
        Stripes.fill(x, 0);
        x.flip(0, 0, 0, 94);
        x.flip(4, 0, 1, 95);
        Stripes.rebuildUpTo(x, 1, 1);
        Due.answers("6: block(1, 0, 0)", Stripes.number(0, 0) ^ 94, () -> x.block(1, 0, 0));
        Due.answers("6: block(1, 0, 1)", Stripes.number(0, 1) ^ 95, () -> x.block(1, 0, 1));
    }

    /** "n STRIPES more". */
    private static void promise6WhatIsRebuiltIsNotWrittenAgain() {
        ParityDisks x = new ParityDisks();
        Stripes.rebuildUpTo(x, 1, 5);
        x.flip(1, 4, 0, 96);
        x.flip(1, 5, 0, 97);
        x.rebuild(1, 95);
        Due.answers("6: block(1, 4, 0), rebuilt before", 96, () -> x.block(1, 4, 0));
        Due.answers("6: block(1, 5, 0), rebuilt now", 0, () -> x.block(1, 5, 0));
    }

    /** "up to the first that is LOST": STRIPE 0. */
    private static void promise6FirstStripeLost() {
        for (int disk = 0; disk < DISKS; disk++) {
            for (int other = 0; other < DISKS; other++) {
                if (other != disk) {
                    stopsAt(0, disk, other, Integer.MAX_VALUE);
                }
            }
        }
    }

    /** "up to the first that is LOST (that is not written): up to which it is REBUILT". */
    private static void promise6UpToTheFirstLost() {
        for (int disk = 0; disk < DISKS; disk++) {
            for (int other = 0; other < DISKS; other++) {
                for (int lost : new int[] {1, 4, 5, 50, 98}) {
                    if (other != disk) {
                        stopsAt(lost, disk, other, 100);
                        stopsAt(lost, disk, other, lost + 1);
                        stopsAt(lost, disk, other, Integer.MAX_VALUE);
                    }
                }
            }
        }
    }

    private static void promise6LostToTheLastStripe() {
        for (int disk = 0; disk < DISKS; disk++) {
            for (int other = 0; other < DISKS; other++) {
                if (other != disk) {
                    stopsAt(99, disk, other, 100);
                }
            }
        }
    }

    /** The other DISK can be USED before the STRIPE alone. */
    private static void stopsAt(int lost, int disk, int other, int n) {
        ParityDisks x = new ParityDisks();
        int before = Math.max(lost - 1, 0);
        Stripes.fill(x, before);
        Stripes.fill(x, lost);
        Stripes.rebuildUpTo(x, other, lost);
        x.fail(disk);
        x.replace(disk);
        x.flip(disk, lost, 0, 98);
        x.flip(disk, lost, 1, 98);
        String what = "6: rebuild(" + disk + ", " + n + "), disk " + other + " rebuilt up to " + lost;
        Due.answers(what, lost, () -> x.rebuild(disk, n));
        Due.answers(what + ", again", lost, () -> x.rebuild(disk, n));
        Due.answers(what + ", its state", 2 + lost, () -> x.state(disk));
        Due.answers(what + ", the other's", 2 + lost, () -> x.state(other));
        shows(what + ", not written", 98, x, disk, lost);
        if (before < lost) {
            showsFilled(what + ", the one before it", x, disk, before);
        }
    }

    /** n ends before the STRIPE that is LOST; then one more is asked for. */
    private static void promise6JustBeforeTheFirstLost() {
        ParityDisks x = new ParityDisks();
        Stripes.rebuildUpTo(x, 3, 10);
        x.fail(0);
        x.replace(0);
        Due.answers("6: rebuild(0, 9)", 9, () -> x.rebuild(0, 9));
        Due.answers("6: rebuild(0, 1)", 10, () -> x.rebuild(0, 1));
        Due.answers("6: rebuild(0, 1), lost", 10, () -> x.rebuild(0, 1));
        Due.answers("6: rebuild(0, 0), lost", 10, () -> x.rebuild(0, 0));
    }

    /** The DISK's own BLOCK is the PARITY of STRIPE 10, and a PLACE of it can't be USED. */
    private static void promise6ParityBlocksAreLostToo() {
        ParityDisks x = new ParityDisks();
        Stripes.rebuildUpTo(x, 0, 10);
        x.fail(1);
        Due.answers("6: rebuild(0, 1), a place failed", 10, () -> x.rebuild(0, 1));

        ParityDisks y = new ParityDisks();
        Stripes.rebuildUpTo(y, 1, 10);
        y.fail(0);
        Due.answers("6: rebuild(1, 1), the parity failed", 10, () -> y.rebuild(1, 1));
    }

    private static void promise6TwoThatWaitForEachOther() {
        ParityDisks x = new ParityDisks();
        x.fail(1);
        x.fail(4);
        x.replace(1);
        x.replace(4);
        for (int n : new int[] {0, 1, 100}) {
            Due.answers("6: rebuild(1, " + n + ")", 0, () -> x.rebuild(1, n));
            Due.answers("6: rebuild(4, " + n + ")", 0, () -> x.rebuild(4, n));
        }
        Due.answers("6: state(1)", 2, () -> x.state(1));
        Due.answers("6: state(4)", 2, () -> x.state(4));
    }

    /** A STRIPE that could not be USED through one DISK can be when that is REBUILT behind it. */
    private static void promise6TheOtherCatchesUp() {
        ParityDisks x = new ParityDisks();
        Stripes.fill(x, 2);
        Stripes.fill(x, 3);
        Stripes.rebuildUpTo(x, 1, 4);
        x.fail(2);
        x.replace(2);
        Due.answers("6: rebuild(2, 3)", 3, () -> x.rebuild(2, 3));
        showsFilled("6: stripe 2", x, 2, 2);
        shows("6: stripe 3, not yet", 0, x, 2, 3);
        Due.answers("6: rebuild(2, 100)", 4, () -> x.rebuild(2, 100));
        showsFilled("6: stripe 3", x, 2, 3);
        Due.answers("6: rebuild(1, 100)", 4, () -> x.rebuild(1, 100));
        x.fail(4);
        Due.answers("6: read(15, 0), another failed", Stripes.number(15, 0), () -> x.read(15, 0));
        Due.refusesLost("6: read(17, 0), another failed", () -> x.read(17, 0));
    }
}
