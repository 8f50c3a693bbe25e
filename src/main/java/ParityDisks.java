/**
 * Five disks with parity that goes around. The words in capitals are those of
 * the document's section "Terms".
 */
public final class ParityDisks {
    private static final int DISKS = 5;
    private static final int STRIPES = 100;
    private static final int HALVES = 2;
    private static final int PLACES_OF_STRIPE = DISKS - 1;
    private static final int PLACES = STRIPES * PLACES_OF_STRIPE;

    private static final int SOUND = STRIPES;
    private static final int FAILED = -1;

    private static final int STATE_SOUND = 0;
    private static final int STATE_FAILED = 1;
    private static final int STATE_REBUILT = 2;

    /** What stands in every HALF of every BLOCK; cellOf tells where. */
    private final long[] cells;

    /**
     * For each DISK the STRIPE before which its BLOCKS can be USED. SOUND lies
     * behind every STRIPE and FAILED before every one, so that one comparison
     * tells for all three states whether a BLOCK can be USED.
     */
    private final int[] usedUpTo;

    public ParityDisks() {
        cells = new long[DISKS * STRIPES * HALVES];
        usedUpTo = new int[DISKS];
        for (int disk = 0; disk < DISKS; disk++) {
            usedUpTo[disk] = SOUND;
        }
    }

    public long read(int place, int half) throws IllegalArgumentException, UnsupportedOperationException {
        checkPlace(place);
        checkHalf(half);
        int stripe = stripeOf(place);
        int disk = diskOf(place);
        if (isLost(disk, stripe)) {
            throw new UnsupportedOperationException("the place is lost");
        }
        return whatItHas(disk, stripe, half);
    }

    public void write(int place, int half, long v) throws IllegalArgumentException, UnsupportedOperationException {
        checkPlace(place);
        checkHalf(half);
        int stripe = stripeOf(place);
        int disk = diskOf(place);
        // A place that can't be used and whose parity can't either is lost too,
        // so this one test stands for both grounds of a refusal.
        if (isLost(disk, stripe)) {
            throw new UnsupportedOperationException("the write is refused");
        }
        long had = whatItHas(disk, stripe, half);
        int parityDisk = parityDiskOf(stripe);
        if (canBeUsed(parityDisk, stripe)) {
            cells[cellOf(parityDisk, stripe, half)] ^= had ^ v;
        }
        if (canBeUsed(disk, stripe)) {
            cells[cellOf(disk, stripe, half)] = v;
        }
    }

    public void fail(int disk) throws IllegalArgumentException {
        checkDisk(disk);
        usedUpTo[disk] = FAILED;
    }

    public void replace(int disk) throws IllegalArgumentException, IllegalStateException {
        checkDisk(disk);
        if (usedUpTo[disk] != FAILED) {
            throw new IllegalStateException("the disk did not fail");
        }
        for (int stripe = 0; stripe < STRIPES; stripe++) {
            for (int half = 0; half < HALVES; half++) {
                cells[cellOf(disk, stripe, half)] = 0L;
            }
        }
        usedUpTo[disk] = 0;
    }

    public int rebuild(int disk, int n) throws IllegalArgumentException, IllegalStateException {
        checkDisk(disk);
        if (n < 0) {
            throw new IllegalArgumentException("n is below 0");
        }
        int from = usedUpTo[disk];
        if (from == SOUND || from == FAILED) {
            throw new IllegalStateException("the disk is not being rebuilt");
        }
        // The lesser of the two is taken before the sum, which could wrap around.
        int end = from + Math.min(n, STRIPES - from);
        int stripe = from;
        while (stripe < end && !isLost(disk, stripe)) {
            rebuildBlock(disk, stripe);
            stripe++;
        }
        usedUpTo[disk] = stripe;
        return stripe;
    }

    public void flip(int disk, int block, int half, long bits) throws IllegalArgumentException, IllegalStateException {
        checkStanding(disk, block, half);
        cells[cellOf(disk, block, half)] ^= bits;
    }

    public long block(int disk, int block, int half) throws IllegalArgumentException, IllegalStateException {
        checkStanding(disk, block, half);
        return cells[cellOf(disk, block, half)];
    }

    public int scrub() {
        int mended = 0;
        for (int stripe = 0; stripe < STRIPES; stripe++) {
            if (allCanBeUsed(stripe) && mendParity(stripe)) {
                mended++;
            }
        }
        return mended;
    }

    public int state(int disk) throws IllegalArgumentException {
        checkDisk(disk);
        int upTo = usedUpTo[disk];
        if (upTo == SOUND) {
            return STATE_SOUND;
        }
        if (upTo == FAILED) {
            return STATE_FAILED;
        }
        return STATE_REBUILT + upTo;
    }

    public int lost() {
        int count = 0;
        for (int place = 0; place < PLACES; place++) {
            if (isLost(diskOf(place), stripeOf(place))) {
                count++;
            }
        }
        return count;
    }

    private static void checkDisk(int disk) {
        if (disk < 0 || disk >= DISKS) {
            throw new IllegalArgumentException("disk is not 0..4");
        }
    }

    private static void checkPlace(int place) {
        if (place < 0 || place >= PLACES) {
            throw new IllegalArgumentException("place is not 0..399");
        }
    }

    private static void checkHalf(int half) {
        if (half < 0 || half >= HALVES) {
            throw new IllegalArgumentException("half is not 0..1");
        }
    }

    private static void checkBlock(int block) {
        if (block < 0 || block >= STRIPES) {
            throw new IllegalArgumentException("block is not 0..99");
        }
    }

    private void checkStanding(int disk, int block, int half) {
        checkDisk(disk);
        checkBlock(block);
        checkHalf(half);
        if (usedUpTo[disk] == FAILED) {
            throw new IllegalStateException("the disk failed");
        }
    }

    private static int stripeOf(int place) {
        return place / PLACES_OF_STRIPE;
    }

    private static int parityDiskOf(int stripe) {
        return stripe % DISKS;
    }

    private static int diskOf(int place) {
        int order = place % PLACES_OF_STRIPE;
        return order < parityDiskOf(stripeOf(place)) ? order : order + 1;
    }

    private static int cellOf(int disk, int stripe, int half) {
        return (disk * STRIPES + stripe) * HALVES + half;
    }

    private boolean canBeUsed(int disk, int stripe) {
        return stripe < usedUpTo[disk];
    }

    private boolean othersCanBeUsed(int disk, int stripe) {
        for (int other = 0; other < DISKS; other++) {
            if (other != disk && !canBeUsed(other, stripe)) {
                return false;
            }
        }
        return true;
    }

    private boolean allCanBeUsed(int stripe) {
        int parityDisk = parityDiskOf(stripe);
        return canBeUsed(parityDisk, stripe) && othersCanBeUsed(parityDisk, stripe);
    }

    private boolean isLost(int disk, int stripe) {
        return !canBeUsed(disk, stripe) && !othersCanBeUsed(disk, stripe);
    }

    /** Means something only for a BLOCK that is not LOST. */
    private long whatItHas(int disk, int stripe, int half) {
        if (canBeUsed(disk, stripe)) {
            return cells[cellOf(disk, stripe, half)];
        }
        return xorOfOthers(disk, stripe, half);
    }

    private long xorOfOthers(int disk, int stripe, int half) {
        long xor = 0L;
        for (int other = 0; other < DISKS; other++) {
            if (other != disk) {
                xor ^= cells[cellOf(other, stripe, half)];
            }
        }
        return xor;
    }

    private void rebuildBlock(int disk, int stripe) {
        for (int half = 0; half < HALVES; half++) {
            cells[cellOf(disk, stripe, half)] = xorOfOthers(disk, stripe, half);
        }
    }

    /** Answers whether the PARITY was not what it should be. */
    private boolean mendParity(int stripe) {
        int parityDisk = parityDiskOf(stripe);
        boolean wrong = false;
        for (int half = 0; half < HALVES; half++) {
            int cell = cellOf(parityDisk, stripe, half);
            long due = xorOfOthers(parityDisk, stripe, half);
            if (cells[cell] != due) {
                cells[cell] = due;
                wrong = true;
            }
        }
        return wrong;
    }
}
