import java.util.ArrayList;
import java.util.List;

/**
 * A second writing of the document's terms that shares no idea with the class:
 * objects for BLOCKS, null for LOST, and the layout kept as a list of PLACES. Its
 * calls answer as texts, an exception by its name behind "throws.".
 */
final class Model {
    private enum Kind { SOUND, FAILED, REBUILT }

    private static final class Disk {
        Kind kind = Kind.SOUND;
        int upTo = 0;

        boolean usable(int stripe) {
            return switch (kind) {
                case SOUND -> true;
                case FAILED -> false;
                case REBUILT -> stripe < upTo;
            };
        }
    }

    private static final class Block {
        final Disk disk;
        final int stripe;
        final long[] stands = new long[2];

        Block(Disk disk, int stripe) {
            this.disk = disk;
            this.stripe = stripe;
        }

        boolean usable() {
            return disk.usable(stripe);
        }
    }

    private final List<Disk> disks = new ArrayList<>();
    private final List<List<Block>> stripes = new ArrayList<>();
    private final List<Block> places = new ArrayList<>();
    private final List<Block> parities = new ArrayList<>();

    Model() {
        for (int d = 0; d < 5; d++) {
            disks.add(new Disk());
        }
        for (int s = 0; s < 100; s++) {
            List<Block> stripe = new ArrayList<>();
            for (Disk disk : disks) {
                stripe.add(new Block(disk, s));
            }
            stripes.add(stripe);
            List<Block> others = new ArrayList<>(stripe);
            parities.add(others.remove(s % 5));
            places.addAll(others);
        }
    }

    private Long has(Block block, int half) {
        if (block.usable()) {
            return block.stands[half];
        }
        long xor = 0;
        for (Block other : stripes.get(block.stripe)) {
            if (other == block) {
                continue;
            }
            if (!other.usable()) {
                return null;
            }
            xor ^= other.stands[half];
        }
        return xor;
    }

    String read(int place, int half) {
        if (place < 0 || place > 399 || half < 0 || half > 1) {
            return "throws.IllegalArgumentException";
        }
        Long has = has(places.get(place), half);
        return has == null ? "throws.UnsupportedOperationException" : has.toString();
    }

    String write(int place, int half, long v) {
        if (place < 0 || place > 399 || half < 0 || half > 1) {
            return "throws.IllegalArgumentException";
        }
        Block block = places.get(place);
        Block parity = parities.get(block.stripe);
        Long had = has(block, half);
        if (had == null || (!block.usable() && !parity.usable())) {
            return "throws.UnsupportedOperationException";
        }
        if (parity.usable()) {
            parity.stands[half] = parity.stands[half] ^ had ^ v;
        }
        if (block.usable()) {
            block.stands[half] = v;
        }
        return "nothing";
    }

    private boolean noDisk(int disk) {
        return disk < 0 || disk > 4;
    }

    String fail(int disk) {
        if (noDisk(disk)) {
            return "throws.IllegalArgumentException";
        }
        disks.get(disk).kind = Kind.FAILED;
        return "nothing";
    }

    String replace(int disk) {
        if (noDisk(disk)) {
            return "throws.IllegalArgumentException";
        }
        Disk replaced = disks.get(disk);
        if (replaced.kind != Kind.FAILED) {
            return "throws.IllegalStateException";
        }
        replaced.kind = Kind.REBUILT;
        replaced.upTo = 0;
        for (List<Block> stripe : stripes) {
            stripe.get(disk).stands[0] = 0;
            stripe.get(disk).stands[1] = 0;
        }
        return "nothing";
    }

    String rebuild(int disk, int n) {
        if (noDisk(disk) || n < 0) {
            return "throws.IllegalArgumentException";
        }
        Disk rebuilt = disks.get(disk);
        if (rebuilt.kind != Kind.REBUILT) {
            return "throws.IllegalStateException";
        }
        for (int left = n; left > 0 && rebuilt.upTo < 100; left--) {
            Block block = stripes.get(rebuilt.upTo).get(disk);
            Long first = has(block, 0);
            Long second = has(block, 1);
            if (first == null || second == null) {
                break;
            }
            block.stands[0] = first;
            block.stands[1] = second;
            rebuilt.upTo++;
        }
        if (rebuilt.upTo == 100) {
            rebuilt.kind = Kind.SOUND;
        }
        return Integer.toString(rebuilt.upTo);
    }

    String flip(int disk, int block, int half, long bits) {
        String told = block(disk, block, half);
        if (told.startsWith("throws.")) {
            return told;
        }
        stripes.get(block).get(disk).stands[half] ^= bits;
        return "nothing";
    }

    String block(int disk, int block, int half) {
        if (noDisk(disk) || block < 0 || block > 99 || half < 0 || half > 1) {
            return "throws.IllegalArgumentException";
        }
        if (disks.get(disk).kind == Kind.FAILED) {
            return "throws.IllegalStateException";
        }
        return Long.toString(stripes.get(block).get(disk).stands[half]);
    }

    String scrub() {
        int count = 0;
        for (int s = 0; s < 100; s++) {
            if (!stripes.get(s).stream().allMatch(Block::usable)) {
                continue;
            }
            long[] xor = new long[2];
            for (Block place : places.subList(4 * s, 4 * s + 4)) {
                xor[0] ^= place.stands[0];
                xor[1] ^= place.stands[1];
            }
            long[] parity = parities.get(s).stands;
            if (parity[0] != xor[0] || parity[1] != xor[1]) {
                count++;
            }
            parity[0] = xor[0];
            parity[1] = xor[1];
        }
        return Integer.toString(count);
    }

    String state(int disk) {
        if (noDisk(disk)) {
            return "throws.IllegalArgumentException";
        }
        Disk asked = disks.get(disk);
        return switch (asked.kind) {
            case SOUND -> "0";
            case FAILED -> "1";
            case REBUILT -> Integer.toString(2 + asked.upTo);
        };
    }

    String lost() {
        return Long.toString(places.stream().filter(place -> has(place, 0) == null).count());
    }
}
