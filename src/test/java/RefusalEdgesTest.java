/**
 * "Of several exceptions the one that a call names first is thrown; then nothing
 * changes": each refused call, with all that other calls show afterwards.
 */
public final class RefusalEdgesTest {
    private static final int[] NO_DISK = {-1, 5, Integer.MIN_VALUE, Integer.MAX_VALUE};
    private static final int[] NO_BLOCK = {-1, 100, Integer.MIN_VALUE, Integer.MAX_VALUE};
    private static final int[] NO_HALF = {-1, 2, Integer.MIN_VALUE, Integer.MAX_VALUE};
    private static final int[] NO_PLACE = {-1, 400, Integer.MIN_VALUE, Integer.MAX_VALUE};
    private static final int[] BELOW_0 = {-1, -3, Integer.MIN_VALUE};

    private static final int SOUND = 0;
    private static final int FAILED = 1;
    private static final int REBUILT = 2;
    private static final int UP_TO = 3;

    /** Place 12 lies on disk 0, its parity on disk 3; 13 on the failed disk, 14 on the rebuilt one. */
    private static final int FIRST_LOST = 13;
    private static final int SECOND_LOST = 14;

    /** Of stripe 6 the parity stands on the failed disk 1; place 25 lies on the rebuilt one. */
    private static final int LOST_WITH_ITS_PARITY = 25;

    private static final Seen MIXED = new Seen(RefusalEdgesTest::mixed);

    public static void main(String[] args) {
        theStatesAreAsMeant();
        promise2ReadWrong();
        promise2ReadLost();
        promise2ReadSeveral();
        promise3WriteWrong();
        promise3WriteRefusedHadLost();
        promise3WriteRefusedCanNeither();
        promise3WriteSeveral();
        promise4FailWrong();
        promise5ReplaceWrong();
        promise5ReplaceDidNotFail();
        promise6RebuildWrong();
        promise6RebuildNotRebuilt();
        promise6RebuildSeveral();
        promise7FlipWrong();
        promise7FlipFailed();
        promise7FlipSeveral();
        promise8BlockWrong();
        promise8BlockFailed();
        promise8BlockSeveral();
        promise10StateWrong();
        Due.end();
    }

    /** Disk 0, 3, 4 sound, 1 failed, 2 rebuilt up to 3; numbers and flipped bits on both sides of that. */
    private static void mixed(ParityDisks x) {
        for (int stripe : new int[] {0, 2, 3, 4, 6, 98, 99}) {
            Stripes.fill(x, stripe);
        }
        Stripes.rebuildUpTo(x, REBUILT, UP_TO);
        x.flip(REBUILT, 2, 0, 81);
        x.flip(REBUILT, 3, 1, 82);
        x.flip(REBUILT, 99, 0, 83);
        x.flip(SOUND, 0, 0, 84);
        x.flip(4, 50, 1, 85);
        x.fail(FAILED);
    }

    private static void theStatesAreAsMeant() {
        ParityDisks x = new ParityDisks();
        mixed(x);
        Due.answers("state(0)", 0, () -> x.state(SOUND));
        Due.answers("state(1)", 1, () -> x.state(FAILED));
        Due.answers("state(2)", 2 + UP_TO, () -> x.state(REBUILT));
        Due.answers("disk of place 13", FAILED, () -> Stripes.diskOf(FIRST_LOST));
        Due.answers("disk of place 14", REBUILT, () -> Stripes.diskOf(SECOND_LOST));
        Due.answers("disk of place 25", REBUILT, () -> Stripes.diskOf(LOST_WITH_ITS_PARITY));
    }

    private static void promise2ReadWrong() {
        for (int place : NO_PLACE) {
            MIXED.refusesArgument("2: read(" + place + ", 0)", x -> x.read(place, 0));
        }
        for (int half : NO_HALF) {
            MIXED.refusesArgument("2: read(12, " + half + ")", x -> x.read(12, half));
        }
    }

    private static void promise2ReadLost() {
        for (int place : new int[] {FIRST_LOST, SECOND_LOST, LOST_WITH_ITS_PARITY}) {
            for (int half = 0; half < 2; half++) {
                int h = half;
                MIXED.refusesLost("2: read(" + place + ", " + h + ")", x -> x.read(place, h));
            }
        }
    }

    private static void promise2ReadSeveral() {
        MIXED.refusesArgument("2: read(400, 2)", x -> x.read(400, 2));
        MIXED.refusesArgument("2: read(-1, -1)", x -> x.read(-1, -1));
        for (int half : NO_HALF) {
            MIXED.refusesArgument("2: read(13, " + half + "), lost too", x -> x.read(FIRST_LOST, half));
        }
        Seen allFailed = new Seen(RefusalEdgesTest::failAll);
        allFailed.refusesArgument("2: read(400, 0), all lost", x -> x.read(400, 0));
        allFailed.refusesArgument("2: read(-1, 1), all lost", x -> x.read(-1, 1));
        allFailed.refusesLost("2: read(399, 1), all lost", x -> x.read(399, 1));
    }

    private static void failAll(ParityDisks x) {
        for (int disk = 0; disk < 5; disk++) {
            x.fail(disk);
        }
    }

    private static void promise3WriteWrong() {
        for (int place : NO_PLACE) {
            MIXED.refusesArgument("3: write(" + place + ", 0, 7)", x -> x.write(place, 0, 7));
        }
        for (int half : NO_HALF) {
            MIXED.refusesArgument("3: write(12, " + half + ", 7)", x -> x.write(12, half, 7));
        }
    }

    /** PARITY of stripe 3, on disk 3, can be USED: were it written, block(3, 3, half) would show it. */
    private static void promise3WriteRefusedHadLost() {
        for (int place : new int[] {FIRST_LOST, SECOND_LOST}) {
            for (int half = 0; half < 2; half++) {
                int h = half;
                MIXED.refusesLost("3: write(" + place + ", " + h + ", 7)", x -> x.write(place, h, 7));
            }
        }
    }

    private static void promise3WriteRefusedCanNeither() {
        for (int half = 0; half < 2; half++) {
            int h = half;
            MIXED.refusesLost("3: write(25, " + h + ", 7)", x -> x.write(LOST_WITH_ITS_PARITY, h, 7));
        }
        Seen bothReplaced = new Seen(x -> {
            mixed(x);
            x.replace(FAILED);
        });
        bothReplaced.refusesLost("3: write(25, 0, 7), both replaced", x -> x.write(LOST_WITH_ITS_PARITY, 0, 7));
        bothReplaced.refusesLost("3: write(25, 1, 7), both replaced", x -> x.write(LOST_WITH_ITS_PARITY, 1, 7));
    }

    private static void promise3WriteSeveral() {
        MIXED.refusesArgument("3: write(400, 2, 7)", x -> x.write(400, 2, 7));
        MIXED.refusesArgument("3: write(-1, -1, 7)", x -> x.write(-1, -1, 7));
        for (int half : NO_HALF) {
            MIXED.refusesArgument("3: write(14, " + half + ", 7), lost too", x -> x.write(SECOND_LOST, half, 7));
        }
        Seen allFailed = new Seen(RefusalEdgesTest::failAll);
        allFailed.refusesArgument("3: write(400, 0, 7), all lost", x -> x.write(400, 0, 7));
        allFailed.refusesArgument("3: write(-1, 1, 7), all lost", x -> x.write(-1, 1, 7));
        allFailed.refusesLost("3: write(399, 1, 7), all lost", x -> x.write(399, 1, 7));
    }

    private static void promise4FailWrong() {
        for (int disk : NO_DISK) {
            MIXED.refusesArgument("4: fail(" + disk + ")", x -> x.fail(disk));
        }
    }

    /** A DISK that is not there did not FAIL either: the first of the two is thrown. */
    private static void promise5ReplaceWrong() {
        for (int disk : NO_DISK) {
            MIXED.refusesArgument("5: replace(" + disk + ")", x -> x.replace(disk));
        }
    }

    private static void promise5ReplaceDidNotFail() {
        for (int disk : new int[] {SOUND, REBUILT, 3, 4}) {
            MIXED.refusesState("5: replace(" + disk + ")", x -> x.replace(disk));
        }
        Seen justReplaced = new Seen(x -> {
            mixed(x);
            x.replace(FAILED);
            x.flip(FAILED, 0, 0, 86);
        });
        justReplaced.refusesState("5: replace(1), rebuilt up to 0", x -> x.replace(FAILED));
        Seen soundAgain = new Seen(x -> {
            Stripes.fill(x, 99);
            Stripes.rebuildUpTo(x, 0, 100);
        });
        soundAgain.refusesState("5: replace(0), sound again", x -> x.replace(0));
    }

    private static void promise6RebuildWrong() {
        for (int disk : NO_DISK) {
            MIXED.refusesArgument("6: rebuild(" + disk + ", 1)", x -> x.rebuild(disk, 1));
        }
        for (int n : BELOW_0) {
            MIXED.refusesArgument("6: rebuild(2, " + n + ")", x -> x.rebuild(REBUILT, n));
        }
    }

    private static void promise6RebuildNotRebuilt() {
        for (int n : new int[] {0, 1, 100, Integer.MAX_VALUE}) {
            MIXED.refusesState("6: rebuild(0, " + n + "), sound", x -> x.rebuild(SOUND, n));
            MIXED.refusesState("6: rebuild(1, " + n + "), failed", x -> x.rebuild(FAILED, n));
        }
        Seen soundAgain = new Seen(x -> {
            Stripes.fill(x, 99);
            Stripes.rebuildUpTo(x, 4, 100);
            x.flip(4, 99, 0, 87);
        });
        soundAgain.refusesState("6: rebuild(4, 0), sound again", x -> x.rebuild(4, 0));
        soundAgain.refusesState("6: rebuild(4, 1), sound again", x -> x.rebuild(4, 1));
    }

    private static void promise6RebuildSeveral() {
        for (int n : BELOW_0) {
            MIXED.refusesArgument("6: rebuild(0, " + n + "), sound too", x -> x.rebuild(SOUND, n));
            MIXED.refusesArgument("6: rebuild(1, " + n + "), failed too", x -> x.rebuild(FAILED, n));
            MIXED.refusesArgument("6: rebuild(5, " + n + ")", x -> x.rebuild(5, n));
            MIXED.refusesArgument("6: rebuild(-1, " + n + ")", x -> x.rebuild(-1, n));
        }
    }

    private static void promise7FlipWrong() {
        for (int disk : NO_DISK) {
            MIXED.refusesArgument("7: flip(" + disk + ", 0, 0, 7)", x -> x.flip(disk, 0, 0, 7));
        }
        for (int disk : new int[] {SOUND, REBUILT, 4}) {
            for (int block : NO_BLOCK) {
                MIXED.refusesArgument("7: flip(" + disk + ", " + block + ", 0, 7)", x -> x.flip(disk, block, 0, 7));
            }
            for (int half : NO_HALF) {
                MIXED.refusesArgument("7: flip(" + disk + ", 50, " + half + ", 7)", x -> x.flip(disk, 50, half, 7));
            }
        }
    }

    private static void promise7FlipFailed() {
        for (int block : new int[] {0, 50, 99}) {
            for (int half = 0; half < 2; half++) {
                int h = half;
                MIXED.refusesState("7: flip(1, " + block + ", " + h + ", 7)", x -> x.flip(FAILED, block, h, 7));
            }
        }
    }

    private static void promise7FlipSeveral() {
        for (int block : NO_BLOCK) {
            MIXED.refusesArgument("7: flip(1, " + block + ", 0, 7), failed too", x -> x.flip(FAILED, block, 0, 7));
        }
        for (int half : NO_HALF) {
            MIXED.refusesArgument("7: flip(1, 0, " + half + ", 7), failed too", x -> x.flip(FAILED, 0, half, 7));
        }
        MIXED.refusesArgument("7: flip(5, 100, 2, 7)", x -> x.flip(5, 100, 2, 7));
        MIXED.refusesArgument("7: flip(-1, -1, -1, 7)", x -> x.flip(-1, -1, -1, 7));
    }

    private static void promise8BlockWrong() {
        for (int disk : NO_DISK) {
            MIXED.refusesArgument("8: block(" + disk + ", 0, 0)", x -> x.block(disk, 0, 0));
        }
        for (int disk : new int[] {SOUND, REBUILT, 4}) {
            for (int block : NO_BLOCK) {
                MIXED.refusesArgument("8: block(" + disk + ", " + block + ", 0)", x -> x.block(disk, block, 0));
            }
            for (int half : NO_HALF) {
                MIXED.refusesArgument("8: block(" + disk + ", 50, " + half + ")", x -> x.block(disk, 50, half));
            }
        }
    }

    private static void promise8BlockFailed() {
        for (int block : new int[] {0, 50, 99}) {
            for (int half = 0; half < 2; half++) {
                int h = half;
                MIXED.refusesState("8: block(1, " + block + ", " + h + ")", x -> x.block(FAILED, block, h));
            }
        }
    }

    private static void promise8BlockSeveral() {
        for (int block : NO_BLOCK) {
            MIXED.refusesArgument("8: block(1, " + block + ", 0), failed too", x -> x.block(FAILED, block, 0));
        }
        for (int half : NO_HALF) {
            MIXED.refusesArgument("8: block(1, 0, " + half + "), failed too", x -> x.block(FAILED, 0, half));
        }
        MIXED.refusesArgument("8: block(5, 100, 2)", x -> x.block(5, 100, 2));
        MIXED.refusesArgument("8: block(-1, -1, -1)", x -> x.block(-1, -1, -1));
    }

    private static void promise10StateWrong() {
        for (int disk : NO_DISK) {
            MIXED.refusesArgument("10: state(" + disk + ")", x -> x.state(disk));
        }
    }
}
