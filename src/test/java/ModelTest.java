import java.util.ArrayList;
import java.util.List;
import java.util.function.Supplier;

/**
 * Long runs of calls, held against a second writing of the document's terms
 * that shares no idea with the class: objects for BLOCKS, null for LOST, and
 * the layout kept as a list of PLACES.
 */
public final class ModelTest {
    private static final int RUNS = 1500;
    private static final int CALLS = 400;
    private static final int AUDITS = 112;

    private enum Kind { SOUND, FAILED, REBUILT }

    private static final class Disk {
        Kind kind = Kind.SOUND;
        int upTo = 0;

        boolean usable(int stripe) {
            return switch (kind) {
                case SOUND -> true;
                case FAILED -> false;
                case REBUILT -> stripe < upTo;
            };
        }
    }

    private static final class Block {
        final Disk disk;
        final int stripe;
        final long[] stands = new long[2];

        Block(Disk disk, int stripe) {
            this.disk = disk;
            this.stripe = stripe;
        }

        boolean usable() {
            return disk.usable(stripe);
        }
    }

    private static final class Model {
        final List<Disk> disks = new ArrayList<>();
        final List<List<Block>> stripes = new ArrayList<>();
        final List<Block> places = new ArrayList<>();
        final List<Block> parities = new ArrayList<>();

        Model() {
            for (int d = 0; d < 5; d++) {
                disks.add(new Disk());
            }
            for (int s = 0; s < 100; s++) {
                List<Block> stripe = new ArrayList<>();
                for (Disk disk : disks) {
                    stripe.add(new Block(disk, s));
                }
                stripes.add(stripe);
                List<Block> others = new ArrayList<>(stripe);
                parities.add(others.remove(s % 5));
                places.addAll(others);
            }
        }

        Long has(Block block, int half) {
            if (block.usable()) {
                return block.stands[half];
            }
            long xor = 0;
            for (Block other : stripes.get(block.stripe)) {
                if (other == block) {
                    continue;
                }
                if (!other.usable()) {
                    return null;
                }
                xor ^= other.stands[half];
            }
            return xor;
        }

        String read(int place, int half) {
            if (place < 0 || place > 399 || half < 0 || half > 1) {
                return "throws.IllegalArgumentException";
            }
            Long has = has(places.get(place), half);
            return has == null ? "throws.UnsupportedOperationException" : has.toString();
        }

        String write(int place, int half, long v) {
            if (place < 0 || place > 399 || half < 0 || half > 1) {
                return "throws.IllegalArgumentException";
            }
            Block block = places.get(place);
            Block parity = parities.get(block.stripe);
            Long had = has(block, half);
            if (had == null || (!block.usable() && !parity.usable())) {
                return "throws.UnsupportedOperationException";
            }
            if (parity.usable()) {
                parity.stands[half] = parity.stands[half] ^ had ^ v;
            }
            if (block.usable()) {
                block.stands[half] = v;
            }
            return "nothing";
        }

        boolean noDisk(int disk) {
            return disk < 0 || disk > 4;
        }

        String fail(int disk) {
            if (noDisk(disk)) {
                return "throws.IllegalArgumentException";
            }
            disks.get(disk).kind = Kind.FAILED;
            return "nothing";
        }

        String replace(int disk) {
            if (noDisk(disk)) {
                return "throws.IllegalArgumentException";
            }
            Disk replaced = disks.get(disk);
            if (replaced.kind != Kind.FAILED) {
                return "throws.IllegalStateException";
            }
            replaced.kind = Kind.REBUILT;
            replaced.upTo = 0;
            for (List<Block> stripe : stripes) {
                stripe.get(disk).stands[0] = 0;
                stripe.get(disk).stands[1] = 0;
            }
            return "nothing";
        }

        String rebuild(int disk, int n) {
            if (noDisk(disk) || n < 0) {
                return "throws.IllegalArgumentException";
            }
            Disk rebuilt = disks.get(disk);
            if (rebuilt.kind != Kind.REBUILT) {
                return "throws.IllegalStateException";
            }
            for (int left = n; left > 0 && rebuilt.upTo < 100; left--) {
                Block block = stripes.get(rebuilt.upTo).get(disk);
                Long first = has(block, 0);
                Long second = has(block, 1);
                if (first == null || second == null) {
                    break;
                }
                block.stands[0] = first;
                block.stands[1] = second;
                rebuilt.upTo++;
            }
            if (rebuilt.upTo == 100) {
                rebuilt.kind = Kind.SOUND;
            }
            return Integer.toString(rebuilt.upTo);
        }

        String flip(int disk, int block, int half, long bits) {
            String told = block(disk, block, half);
            if (told.startsWith("throws.")) {
                return told;
            }
            stripes.get(block).get(disk).stands[half] ^= bits;
            return "nothing";
        }

        String block(int disk, int block, int half) {
            if (noDisk(disk) || block < 0 || block > 99 || half < 0 || half > 1) {
                return "throws.IllegalArgumentException";
            }
            if (disks.get(disk).kind == Kind.FAILED) {
                return "throws.IllegalStateException";
            }
            return Long.toString(stripes.get(block).get(disk).stands[half]);
        }

        String scrub() {
            int count = 0;
            for (int s = 0; s < 100; s++) {
                if (!stripes.get(s).stream().allMatch(Block::usable)) {
                    continue;
                }
                long[] xor = new long[2];
                for (Block place : places.subList(4 * s, 4 * s + 4)) {
                    xor[0] ^= place.stands[0];
                    xor[1] ^= place.stands[1];
                }
                long[] parity = parities.get(s).stands;
                if (parity[0] != xor[0] || parity[1] != xor[1]) {
                    count++;
                }
                parity[0] = xor[0];
                parity[1] = xor[1];
            }
            return Integer.toString(count);
        }

        String state(int disk) {
            if (noDisk(disk)) {
                return "throws.IllegalArgumentException";
            }
            Disk asked = disks.get(disk);
            return switch (asked.kind) {
                case SOUND -> "0";
                case FAILED -> "1";
                case REBUILT -> Integer.toString(2 + asked.upTo);
            };
        }

        String lost() {
            return Long.toString(places.stream().filter(place -> has(place, 0) == null).count());
        }
    }

    /** The same numbers in every run of the tests: no random source. */
    private static final class Numbers {
        private long seed;

        Numbers(long seed) {
            this.seed = seed;
        }

        long next() {
            seed += 0x9E3779B97F4A7C15L;
            long z = (seed ^ (seed >>> 30)) * 0xBF58476D1CE4E5B9L;
            z = (z ^ (z >>> 27)) * 0x94D049BB133111EBL;
            return z ^ (z >>> 31);
        }

        int below(int bound) {
            return (int) Math.floorMod(next(), (long) bound);
        }

        /** Mostly 0..bound-1, now and then just outside or far outside. */
        int argument(int bound) {
            int kind = below(60);
            int[] outside = {-1, bound, Integer.MIN_VALUE, Integer.MAX_VALUE};
            return kind < outside.length ? outside[kind] : below(bound);
        }

        /** Few stripes, so that calls meet one another. */
        int stripe() {
            int kind = below(4);
            return kind == 0 ? below(100) : kind == 1 ? 95 + below(5) : below(6);
        }

        int block() {
            return below(40) == 0 ? argument(100) : stripe();
        }

        int place() {
            return below(40) == 0 ? argument(400) : 4 * stripe() + below(4);
        }

        long number() {
            long[] edges = {0, 1, -1, Long.MIN_VALUE, Long.MAX_VALUE};
            int kind = below(10);
            return kind < edges.length ? edges[kind] : next();
        }

        int stripesMore() {
            int[] amounts = {0, 1, 2, 5, 94, 99, 100, Integer.MAX_VALUE, -1, Integer.MIN_VALUE};
            int kind = below(20);
            return kind < amounts.length ? amounts[kind] : below(12);
        }
    }

    private final ParityDisks disks = new ParityDisks();
    private final Model model = new Model();
    private final Numbers numbers;
    private final int run;

    private ModelTest(int run) {
        this.run = run;
        this.numbers = new Numbers(run);
    }

    public static void main(String[] args) {
        for (int run = 0; run < RUNS; run++) {
            new ModelTest(run).go();
        }
        Due.end();
    }

    private void go() {
        for (int call = 0; call < CALLS; call++) {
            oneCall();
        }
        for (int audit = 0; audit < AUDITS; audit++) {
            askBlock(numbers.below(5), numbers.stripe(), numbers.below(2));
        }
    }

    private void oneCall() {
        int disk = numbers.argument(5);
        int half = numbers.argument(2);
        int kind = numbers.below(100);
        if (kind < 18) {
            askRead(numbers.place(), half);
        } else if (kind < 48) {
            askWrite(numbers.place(), half, numbers.number());
        } else if (kind < 52) {
            check("fail(" + disk + ")", model.fail(disk), done(() -> disks.fail(disk)));
        } else if (kind < 58) {
            check("replace(" + disk + ")", model.replace(disk), done(() -> disks.replace(disk)));
        } else if (kind < 70) {
            int n = numbers.stripesMore();
            check("rebuild(" + disk + ", " + n + ")", model.rebuild(disk, n), () -> "" + disks.rebuild(disk, n));
        } else if (kind < 78) {
            askFlip(disk, numbers.block(), half, numbers.number());
        } else if (kind < 90) {
            askBlock(disk, numbers.block(), half);
        } else if (kind < 93) {
            check("scrub()", model.scrub(), () -> "" + disks.scrub());
        } else if (kind < 97) {
            check("state(" + disk + ")", model.state(disk), () -> "" + disks.state(disk));
        } else {
            check("lost()", model.lost(), () -> "" + disks.lost());
        }
    }

    private void askRead(int place, int half) {
        check("read(" + place + ", " + half + ")", model.read(place, half), () -> "" + disks.read(place, half));
    }

    private void askWrite(int place, int half, long v) {
        check("write(" + place + ", " + half + ", " + v + ")", model.write(place, half, v),
            done(() -> disks.write(place, half, v)));
    }

    private void askFlip(int disk, int block, int half, long bits) {
        check("flip(" + disk + ", " + block + ", " + half + ", " + bits + ")",
            model.flip(disk, block, half, bits), done(() -> disks.flip(disk, block, half, bits)));
    }

    private void askBlock(int disk, int block, int half) {
        check("block(" + disk + ", " + block + ", " + half + ")", model.block(disk, block, half),
            () -> "" + disks.block(disk, block, half));
    }

    private static Supplier<String> done(Due.Call call) {
        return () -> Due.nothing(call);
    }

    private void check(String call, String want, Supplier<String> made) {
        Due.same("run " + run + ": " + call, want, Due.told(made));
    }
}
