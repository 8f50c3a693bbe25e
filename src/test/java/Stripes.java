/** The layout written out by hand, and numbers to fill it with. */
final class Stripes {
    /** For s % 5 the DISKS of PLACES 4 s, 4 s + 1, 4 s + 2, 4 s + 3. */
    private static final int[][] DISKS_OF_PLACES =
        {{1, 2, 3, 4}, {0, 2, 3, 4}, {0, 1, 3, 4}, {0, 1, 2, 4}, {0, 1, 2, 3}};

    static final int NO_PLACE = -1;

    private Stripes() {
    }

    static int diskOf(int place) {
        return DISKS_OF_PLACES[place / 4 % 5][place % 4];
    }

    /** NO_PLACE if the BLOCK is the PARITY of its STRIPE. */
    static int placeOf(int disk, int stripe) {
        for (int place = 4 * stripe; place < 4 * stripe + 4; place++) {
            if (diskOf(place) == disk) {
                return place;
            }
        }
        return NO_PLACE;
    }

    /** A number of its own for every HALF of every PLACE, never 0. */
    static long number(int place, int half) {
        return (place + 1) * 0x9E3779B97F4A7C15L + half * 0x0123456789ABCDEFL;
    }

    /** Eight calls. */
    static void fill(ParityDisks x, int stripe) {
        for (int place = 4 * stripe; place < 4 * stripe + 4; place++) {
            for (int half = 0; half < 2; half++) {
                x.write(place, half, number(place, half));
            }
        }
    }

    static long parityOf(int stripe, int half) {
        return number(4 * stripe, half) ^ number(4 * stripe + 1, half)
            ^ number(4 * stripe + 2, half) ^ number(4 * stripe + 3, half);
    }

    /** What stands in a HALF of a BLOCK of a STRIPE that was filled. */
    static long filled(int disk, int stripe, int half) {
        int place = placeOf(disk, stripe);
        return place == NO_PLACE ? parityOf(stripe, half) : number(place, half);
    }

    /** Three calls: the DISK is REBUILT up to that STRIPE, if none before it is LOST. */
    static void rebuildUpTo(ParityDisks x, int disk, int upTo) {
        x.fail(disk);
        x.replace(disk);
        x.rebuild(disk, upTo);
    }
}
