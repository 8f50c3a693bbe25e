/** Long runs of calls of every kind, held against the second writing of the terms. */
public final class ModelTest {
    private static final int RUNS = 1500;
    private static final int CALLS = 400;
    private static final int AUDITS = 112;

    /** The same numbers in every run of the tests: no random source. */
    private static final class Numbers {
        private long seed;

        Numbers(long seed) {
            this.seed = seed;
        }

        long next() {
            seed += 0x9E3779B97F4A7C15L;
            long z = (seed ^ (seed >>> 30)) * 0xBF58476D1CE4E5B9L;
            z = (z ^ (z >>> 27)) * 0x94D049BB133111EBL;
            return z ^ (z >>> 31);
        }

        int below(int bound) {
            return (int) Math.floorMod(next(), (long) bound);
        }

        /** Mostly 0..bound-1, now and then just outside or far outside. */
        int argument(int bound) {
            int kind = below(60);
            int[] outside = {-1, bound, Integer.MIN_VALUE, Integer.MAX_VALUE};
            return kind < outside.length ? outside[kind] : below(bound);
        }

        /** Few stripes, so that calls meet one another. */
        int stripe() {
            int kind = below(4);
            return kind == 0 ? below(100) : kind == 1 ? 95 + below(5) : below(6);
        }

        int block() {
            return below(40) == 0 ? argument(100) : stripe();
        }

        int place() {
            return below(40) == 0 ? argument(400) : 4 * stripe() + below(4);
        }

        long number() {
            long[] edges = {0, 1, -1, Long.MIN_VALUE, Long.MAX_VALUE};
            int kind = below(10);
            return kind < edges.length ? edges[kind] : next();
        }

        int stripesMore() {
            int[] amounts = {0, 1, 2, 5, 94, 99, 100, Integer.MAX_VALUE, -1, Integer.MIN_VALUE};
            int kind = below(20);
            return kind < amounts.length ? amounts[kind] : below(12);
        }
    }

    private final Both both;
    private final Numbers numbers;

    private ModelTest(int run) {
        this.both = new Both("run " + run);
        this.numbers = new Numbers(run);
    }

    public static void main(String[] args) {
        for (int run = 0; run < RUNS; run++) {
            new ModelTest(run).go();
        }
        Due.end();
    }

    private void go() {
        for (int call = 0; call < CALLS; call++) {
            oneCall();
        }
        for (int audit = 0; audit < AUDITS; audit++) {
            both.block(numbers.below(5), numbers.stripe(), numbers.below(2));
        }
    }

    private void oneCall() {
        int disk = numbers.argument(5);
        int half = numbers.argument(2);
        int kind = numbers.below(100);
        if (kind < 18) {
            both.read(numbers.place(), half);
        } else if (kind < 48) {
            both.write(numbers.place(), half, numbers.number());
        } else if (kind < 52) {
            both.fail(disk);
        } else if (kind < 58) {
            both.replace(disk);
        } else if (kind < 70) {
            both.rebuild(disk, numbers.stripesMore());
        } else if (kind < 78) {
            both.flip(disk, numbers.block(), half, numbers.number());
        } else if (kind < 90) {
            both.block(disk, numbers.block(), half);
        } else if (kind < 93) {
            both.scrub();
        } else if (kind < 97) {
            both.state(disk);
        } else {
            both.lost();
        }
    }
}
