/**
 * What a STRIPE answers hangs on which of its five BLOCKS can be USED, and why not.
 * So every way in which five DISKS can stand to one STRIPE is taken, with its PARITY
 * on each DISK in turn, and held against the second writing of the terms.
 */
public final class EveryStateTest {
    private static final int DISKS = 5;
    private static final int HALVES = 2;

    private static final int SOUND = 0;
    private static final int REBUILT_BEHIND_IT = 1;
    private static final int REBUILT_UP_TO_IT = 2;
    private static final int FAILED = 3;
    private static final int STANDINGS = 4;
    private static final int WAYS = STANDINGS * STANDINGS * STANDINGS * STANDINGS * STANDINGS;

    /** One for each DISK that PARITY may stand on, the first and the last among them. */
    private static final int[] STRIPES = {0, 6, 57, 98, 99};

    private final int stripe;
    private final int[] standings = new int[DISKS];
    private final Both both;

    private EveryStateTest(int stripe, int way) {
        this.stripe = stripe;
        this.both = new Both("stripe " + stripe + ", way " + Integer.toString(way, STANDINGS));
        int rest = way;
        for (int disk = 0; disk < DISKS; disk++) {
            standings[disk] = rest % STANDINGS;
            rest /= STANDINGS;
        }
    }

    public static void main(String[] args) {
        for (int stripe : STRIPES) {
            for (int way = 0; way < WAYS; way++) {
                new EveryStateTest(stripe, way).go();
            }
        }
        Due.end();
    }

    /** Some 280 calls. */
    private void go() {
        writeAll(1);
        // A rebuild goes as far only as the others can be used, so those that are
        // to come furthest go first.
        reach(REBUILT_BEHIND_IT, stripe + 1);
        reach(REBUILT_UP_TO_IT, stripe);
        failThose();
        theStatesAreAsMeant();
        look();
        writeAll(2);
        look();
        flipAll();
        look();
        writeAll(3);
        look();
        both.scrub();
        look();
        rebuildAll();
        look();
        replaceAll();
        look();
        rebuildAll();
        look();
        both.scrub();
        look();
    }

    private void writeAll(int round) {
        for (int place = 4 * stripe; place < 4 * stripe + 4; place++) {
            for (int half = 0; half < HALVES; half++) {
                both.write(place, half, round * Stripes.number(place, half));
            }
        }
    }

    private void reach(int standing, int upTo) {
        for (int disk = 0; disk < DISKS; disk++) {
            if (standings[disk] == standing) {
                both.fail(disk);
                both.replace(disk);
                both.rebuild(disk, upTo);
            }
        }
    }

    private void failThose() {
        for (int disk = 0; disk < DISKS; disk++) {
            if (standings[disk] == FAILED) {
                both.fail(disk);
            }
        }
    }

    private void theStatesAreAsMeant() {
        for (int disk = 0; disk < DISKS; disk++) {
            both.stateIs(stateMeant(standings[disk]), disk);
        }
    }

    private int stateMeant(int standing) {
        return switch (standing) {
            case SOUND -> 0;
            case REBUILT_BEHIND_IT -> stripe == 99 ? 0 : 2 + stripe + 1;
            case REBUILT_UP_TO_IT -> 2 + stripe;
            default -> 1;
        };
    }

    private void flipAll() {
        for (int disk = 0; disk < DISKS; disk++) {
            both.flip(disk, stripe, 0, 1L << disk);
            both.flip(disk, stripe, 1, Long.MIN_VALUE >>> disk);
        }
    }

    private void rebuildAll() {
        for (int disk = 0; disk < DISKS; disk++) {
            both.rebuild(disk, 1);
        }
    }

    private void replaceAll() {
        for (int disk = 0; disk < DISKS; disk++) {
            both.replace(disk);
        }
    }

    private void look() {
        for (int half = 0; half < HALVES; half++) {
            for (int place = 4 * stripe; place < 4 * stripe + 4; place++) {
                both.read(place, half);
            }
            for (int disk = 0; disk < DISKS; disk++) {
                both.block(disk, stripe, half);
            }
        }
        for (int disk = 0; disk < DISKS; disk++) {
            both.state(disk);
        }
        both.lost();
    }
}
