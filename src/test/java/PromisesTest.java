/** The promises one by one, with answers reckoned by hand. */
public final class PromisesTest {
    private static final int[] NO_DISK = {-1, 5, Integer.MIN_VALUE, Integer.MAX_VALUE};
    private static final int[] NO_PLACE = {-1, 400, 401, Integer.MIN_VALUE, Integer.MAX_VALUE};
    private static final int[] NO_BLOCK = {-1, 100, 101, Integer.MIN_VALUE, Integer.MAX_VALUE};
    private static final int[] NO_HALF = {-1, 2, Integer.MIN_VALUE, Integer.MAX_VALUE};

    public static void main(String[] args) {
        promise1NewObject();
        promise1ObjectsAreApart();
        promise2ReadWhatStands();
        promise2ReadWhatIsReckoned();
        promise2ReadOfRebuilt();
        promise2ReadWrong();
        promise3PlacesGoAround();
        promise3HalvesAreApart();
        promise3ParityTakesTheDifference();
        promise3PlaceCannotBeUsed();
        promise3ParityCannotBeUsed();
        promise3AnotherPlaceCannotBeUsed();
        promise3Refused();
        promise3OnRebuilt();
        promise3Wrong();
        promise4Fail();
        promise5Replace();
        promise6RebuildBySteps();
        promise6RebuildWritesWhatItHas();
        promise6RebuildStopsAtLost();
        promise6RebuildUnderTwoRebuilt();
        promise6Wrong();
        promise7Flip();
        promise7FlipOfWhatCannotBeUsed();
        promise7And8Wrong();
        promise8Block();
        promise9Scrub();
        promise9ScrubSkipsWhatCannotBeUsed();
        promise10State();
        promise11Lost();
        promise11LostOfRebuilt();
        Due.end();
    }

    private static void promise1NewObject() {
        for (int disk = 0; disk < 5; disk++) {
            ParityDisks x = new ParityDisks();
            int d = disk;
            Due.answers("1: state(" + d + ")", 0, () -> x.state(d));
            for (int block = 0; block < 100; block++) {
                int b = block;
                Due.answers("1: block(" + d + ", " + b + ", 0)", 0, () -> x.block(d, b, 0));
                Due.answers("1: block(" + d + ", " + b + ", 1)", 0, () -> x.block(d, b, 1));
            }
            Due.answers("1: lost()", 0, x::lost);
            Due.answers("1: scrub()", 0, x::scrub);
        }
        for (int half = 0; half < 2; half++) {
            ParityDisks x = new ParityDisks();
            int h = half;
            for (int place = 0; place < 400; place++) {
                int p = place;
                Due.answers("1: read(" + p + ", " + h + ")", 0, () -> x.read(p, h));
            }
        }
    }

    private static void promise1ObjectsAreApart() {
        ParityDisks x = new ParityDisks();
        x.write(0, 0, 7);
        x.fail(4);
        ParityDisks y = new ParityDisks();
        Due.answers("1: read(0, 0) of another object", 0, () -> y.read(0, 0));
        Due.answers("1: state(4) of another object", 0, () -> y.state(4));
        y.write(0, 0, 8);
        Due.answers("1: read(0, 0) beside another object", 7, () -> x.read(0, 0));
    }

    private static void promise2ReadWhatStands() {
        ParityDisks x = new ParityDisks();
        long[] numbers = {1, -1, Long.MIN_VALUE, Long.MAX_VALUE, 0};
        for (long v : numbers) {
            x.write(399, 1, v);
            Due.answers("2: read(399, 1)", v, () -> x.read(399, 1));
        }
        x.flip(1, 0, 0, 6);
        Due.answers("2: read(0, 0) after a flip", 6, () -> x.read(0, 0));
        x.flip(0, 0, 0, 1);
        Due.answers("2: read(0, 0) heeds no parity while its disk is sound", 6, () -> x.read(0, 0));
    }

    private static void promise2ReadWhatIsReckoned() {
        for (int stripe : new int[] {0, 1, 2, 3, 4, 5, 57, 99}) {
            for (int failed = 0; failed < 5; failed++) {
                ParityDisks x = new ParityDisks();
                Stripes.fill(x, stripe);
                x.fail(failed);
                for (int place = 4 * stripe; place < 4 * stripe + 4; place++) {
                    int p = place;
                    String after = ") after fail(" + failed + ")";
                    Due.answers("2: read(" + p + ", 0" + after, Stripes.number(p, 0), () -> x.read(p, 0));
                    Due.answers("2: read(" + p + ", 1" + after, Stripes.number(p, 1), () -> x.read(p, 1));
                }
            }
        }
        ParityDisks x = new ParityDisks();
        x.write(0, 0, 5);
        x.flip(0, 0, 0, 2);
        x.flip(4, 0, 0, 8);
        x.fail(1);
        Due.answers("2: read(0, 0) out of flipped others", 5 ^ 2 ^ 8, () -> x.read(0, 0));
    }

    private static void promise2ReadOfRebuilt() {
        ParityDisks x = new ParityDisks();
        Stripes.fill(x, 0);
        Stripes.fill(x, 2);
        x.fail(1);
        x.replace(1);
        Due.answers("2: read(0, 0), replaced", Stripes.number(0, 0), () -> x.read(0, 0));
        x.rebuild(1, 2);
        x.flip(1, 0, 0, 1);
        x.flip(1, 2, 0, 1);
        Due.answers("2: read(0, 0) before where it is rebuilt", Stripes.number(0, 0) ^ 1, () -> x.read(0, 0));
        Due.answers("2: read(9, 0) at where it is rebuilt", Stripes.number(9, 0), () -> x.read(9, 0));
        x.fail(3);
        Due.answers("2: read(2, 0), one failed", Stripes.number(2, 0) ^ 1, () -> x.read(2, 0));
        Due.refusesLost("2: read(9, 0), another failed", () -> x.read(9, 0));
        Due.refusesLost("2: read(10, 1), another failed", () -> x.read(10, 1));
        Due.answers("2: read(8, 1), sound", Stripes.number(8, 1), () -> x.read(8, 1));
    }

    private static void promise2ReadWrong() {
        ParityDisks x = new ParityDisks();
        x.fail(1);
        x.fail(2);
        for (int place : NO_PLACE) {
            Due.refusesArgument("2: read(" + place + ", 0)", () -> x.read(place, 0));
        }
        for (int half : NO_HALF) {
            Due.refusesArgument("2: read(0, " + half + ") though lost", () -> x.read(0, half));
            Due.refusesArgument("2: read(3, " + half + ")", () -> x.read(3, half));
        }
        Due.refusesLost("2: read(0, 0)", () -> x.read(0, 0));
        Due.refusesLost("2: read(1, 1)", () -> x.read(1, 1));
        Due.answers("2: read(2, 0)", 0, () -> x.read(2, 0));
        Due.refusesLost("2: read(5, 0), its parity's disk failed too", () -> x.read(5, 0));
    }

    private static void promise3PlacesGoAround() {
        for (int stripe = 0; stripe < 100; stripe++) {
            ParityDisks x = new ParityDisks();
            Stripes.fill(x, stripe);
            int s = stripe;
            for (int half = 0; half < 2; half++) {
                int h = half;
                for (int order = 0; order < 4; order++) {
                    int disk = Stripes.diskOf(4 * s + order);
                    Due.answers("3: block(" + disk + ", " + s + ", " + h + ")",
                        Stripes.number(4 * s + order, h), () -> x.block(disk, s, h));
                }
                Due.answers("3: parity of stripe " + s, Stripes.parityOf(s, h), () -> x.block(s % 5, s, h));
            }
            Due.answers("3: scrub()", 0, x::scrub);
        }
    }

    private static void promise3HalvesAreApart() {
        ParityDisks x = new ParityDisks();
        x.write(7, 1, 11);
        Due.answers("3: read(7, 0)", 0, () -> x.read(7, 0));
        Due.answers("3: block(1, 1, 0)", 0, () -> x.block(1, 1, 0));
        Due.answers("3: block(1, 1, 1)", 11, () -> x.block(1, 1, 1));
        Due.answers("3: read(6, 1)", 0, () -> x.read(6, 1));
        Due.answers("3: read(11, 1)", 0, () -> x.read(11, 1));
    }

    private static void promise3ParityTakesTheDifference() {
        ParityDisks x = new ParityDisks();
        x.write(0, 0, 5);
        x.write(0, 0, 12);
        Due.answers("3: parity after two writes", 12, () -> x.block(0, 0, 0));
        x.flip(0, 0, 0, 64);
        x.write(1, 0, 3);
        Due.answers("3: a wrong parity stays as wrong", 12 ^ 64 ^ 3, () -> x.block(0, 0, 0));
        x.flip(2, 0, 0, 128);
        x.write(1, 0, 1);
        Due.answers("3: what the place had counts", 12 ^ 64 ^ 128 ^ 1, () -> x.block(0, 0, 0));
        Due.answers("3: the new number stands", 1, () -> x.block(2, 0, 0));
    }

    private static void promise3PlaceCannotBeUsed() {
        ParityDisks x = new ParityDisks();
        Stripes.fill(x, 0);
        x.fail(1);
        Due.passes("3: write(0, 0, 9)", () -> x.write(0, 0, 9));
        Due.answers("3: read(0, 0)", 9, () -> x.read(0, 0));
        Due.answers("3: read(0, 1)", Stripes.number(0, 1), () -> x.read(0, 1));
        Due.answers("3: parity", Stripes.parityOf(0, 0) ^ Stripes.number(0, 0) ^ 9, () -> x.block(0, 0, 0));
        Due.answers("3: the others stay", Stripes.number(1, 0), () -> x.block(2, 0, 0));
    }

    private static void promise3ParityCannotBeUsed() {
        ParityDisks x = new ParityDisks();
        Stripes.fill(x, 0);
        x.fail(0);
        Due.passes("3: write(0, 0, 9)", () -> x.write(0, 0, 9));
        Due.answers("3: block(1, 0, 0)", 9, () -> x.block(1, 0, 0));
        x.replace(0);
        Due.passes("3: write(1, 0, 10)", () -> x.write(1, 0, 10));
        Due.answers("3: parity not yet rebuilt is not written", 0, () -> x.block(0, 0, 0));
        x.rebuild(0, 1);
        Due.answers("3: parity rebuilt", 9 ^ 10 ^ Stripes.number(2, 0) ^ Stripes.number(3, 0), () -> x.block(0, 0, 0));
        x.fail(0);
        x.fail(4);
        Due.passes("3: write(0, 0, 11), two failed", () -> x.write(0, 0, 11));
        Due.answers("3: block(1, 0, 0), two failed", 11, () -> x.block(1, 0, 0));
    }

    private static void promise3AnotherPlaceCannotBeUsed() {
        ParityDisks x = new ParityDisks();
        Stripes.fill(x, 0);
        x.fail(2);
        x.fail(3);
        Due.passes("3: write(0, 0, 9)", () -> x.write(0, 0, 9));
        Due.answers("3: block(1, 0, 0)", 9, () -> x.block(1, 0, 0));
        Due.answers("3: parity", Stripes.parityOf(0, 0) ^ Stripes.number(0, 0) ^ 9, () -> x.block(0, 0, 0));
    }

    private static void promise3Refused() {
        ParityDisks x = new ParityDisks();
        Stripes.fill(x, 0);
        x.fail(1);
        x.fail(2);
        Due.refusesLost("3: write(0, 0, 9), what it had is lost", () -> x.write(0, 0, 9));
        Due.refusesLost("3: write(1, 1, 9), what it had is lost", () -> x.write(1, 1, 9));
        Due.answers("3: parity after a refusal", Stripes.parityOf(0, 0), () -> x.block(0, 0, 0));
        Due.answers("3: parity after a refusal", Stripes.parityOf(0, 1), () -> x.block(0, 0, 1));
        x.replace(1);
        Due.refusesLost("3: write(0, 0, 9), replaced", () -> x.write(0, 0, 9));
        Due.answers("3: the place after a refusal", 0, () -> x.block(1, 0, 0));
        Due.answers("3: parity after a refusal", Stripes.parityOf(0, 0), () -> x.block(0, 0, 0));

        ParityDisks y = new ParityDisks();
        y.fail(0);
        y.fail(1);
        Due.refusesLost("3: write(0, 0, 9), neither can be used", () -> y.write(0, 0, 9));
        y.replace(0);
        y.replace(1);
        Due.refusesLost("3: write(0, 0, 9), neither is rebuilt", () -> y.write(0, 0, 9));
        Due.answers("3: block(0, 0, 0)", 0, () -> y.block(0, 0, 0));
        Due.answers("3: block(1, 0, 0)", 0, () -> y.block(1, 0, 0));
    }

    private static void promise3OnRebuilt() {
        ParityDisks x = new ParityDisks();
        Stripes.fill(x, 2);
        x.fail(1);
        x.replace(1);
        x.rebuild(1, 2);
        x.write(0, 0, 21);
        Due.answers("3: block(1, 0, 0) before where it is rebuilt", 21, () -> x.block(1, 0, 0));
        Due.answers("3: block(0, 0, 0), its parity", 21, () -> x.block(0, 0, 0));
        x.write(9, 0, 22);
        Due.answers("3: block(1, 2, 0) at where it is rebuilt", 0, () -> x.block(1, 2, 0));
        Due.answers("3: block(2, 2, 0), its parity",
            Stripes.parityOf(2, 0) ^ Stripes.number(9, 0) ^ 22, () -> x.block(2, 2, 0));
        Due.answers("3: read(9, 0)", 22, () -> x.read(9, 0));
        x.rebuild(1, 1);
        Due.answers("3: block(1, 2, 0), rebuilt", 22, () -> x.block(1, 2, 0));
    }

    private static void promise3Wrong() {
        ParityDisks x = new ParityDisks();
        x.fail(1);
        x.fail(2);
        for (int place : NO_PLACE) {
            Due.refusesArgument("3: write(" + place + ", 0, 1)", () -> x.write(place, 0, 1));
        }
        for (int half : NO_HALF) {
            Due.refusesArgument("3: write(0, " + half + ", 1) though lost", () -> x.write(0, half, 1));
            Due.refusesArgument("3: write(3, " + half + ", 1)", () -> x.write(3, half, 1));
        }
        for (int block : new int[] {0, 1, 98, 99}) {
            for (int half = 0; half < 2; half++) {
                int h = half;
                Due.answers("3: nothing changed", 0, () -> x.block(0, block, h));
                Due.answers("3: nothing changed", 0, () -> x.block(3, block, h));
                Due.answers("3: nothing changed", 0, () -> x.block(4, block, h));
            }
        }
    }

    private static void promise4Fail() {
        for (int disk = 0; disk < 5; disk++) {
            ParityDisks x = new ParityDisks();
            int d = disk;
            Due.passes("4: fail of a sound disk", () -> x.fail(d));
            Due.answers("4: state(" + d + ")", 1, () -> x.state(d));
            Due.passes("4: fail of a failed disk", () -> x.fail(d));
            Due.answers("4: state(" + d + ")", 1, () -> x.state(d));
            x.replace(d);
            x.rebuild(d, 7);
            Due.passes("4: fail of a rebuilt disk", () -> x.fail(d));
            Due.answers("4: state(" + d + ")", 1, () -> x.state(d));
            for (int other = 0; other < 5; other++) {
                int o = other;
                Due.answers("4: state(" + o + ")", o == d ? 1 : 0, () -> x.state(o));
            }
            for (int wrong : NO_DISK) {
                Due.refusesArgument("4: fail(" + wrong + ")", () -> x.fail(wrong));
            }
        }
        ParityDisks all = new ParityDisks();
        for (int disk = 0; disk < 5; disk++) {
            int d = disk;
            Due.passes("4: all fail", () -> all.fail(d));
        }
        Due.answers("4: lost()", 400, all::lost);
    }

    private static void promise5Replace() {
        for (int disk = 0; disk < 5; disk++) {
            ParityDisks x = new ParityDisks();
            int d = disk;
            for (int block : new int[] {0, 1, 50, 99}) {
                x.flip(d, block, 0, 3);
                x.flip(d, block, 1, 4);
                x.flip((d + 1) % 5, block, 0, 5);
            }
            Due.refusesState("5: replace of a sound disk", () -> x.replace(d));
            Due.answers("5: block after a refusal", 3, () -> x.block(d, 0, 0));
            x.fail(d);
            Due.passes("5: replace(" + d + ")", () -> x.replace(d));
            Due.answers("5: state(" + d + ")", 2, () -> x.state(d));
            for (int block = 0; block < 100; block++) {
                int b = block;
                Due.answers("5: block(" + d + ", " + b + ", 0)", 0, () -> x.block(d, b, 0));
                Due.answers("5: block(" + d + ", " + b + ", 1)", 0, () -> x.block(d, b, 1));
            }
            for (int block : new int[] {0, 1, 50, 99}) {
                Due.answers("5: the next disk stays", 5, () -> x.block((d + 1) % 5, block, 0));
            }
            Due.refusesState("5: replace of a replaced disk", () -> x.replace(d));
            x.rebuild(d, 1);
            x.flip(d, 0, 1, 8);
            long stood = x.block(d, 0, 1);
            Due.refusesState("5: replace of a disk that is rebuilt", () -> x.replace(d));
            Due.answers("5: block after a refusal", stood, () -> x.block(d, 0, 1));
            Due.answers("5: state after a refusal", 3, () -> x.state(d));
            x.rebuild(d, 99);
            Due.refusesState("5: replace of a disk that is sound again", () -> x.replace(d));
            for (int wrong : NO_DISK) {
                Due.refusesArgument("5: replace(" + wrong + ")", () -> x.replace(wrong));
            }
        }
    }

    private static void promise6RebuildBySteps() {
        ParityDisks x = new ParityDisks();
        x.fail(3);
        x.replace(3);
        Due.answers("6: rebuild(3, 0)", 0, () -> x.rebuild(3, 0));
        Due.answers("6: rebuild(3, 1)", 1, () -> x.rebuild(3, 1));
        Due.answers("6: rebuild(3, 40)", 41, () -> x.rebuild(3, 40));
        Due.answers("6: rebuild(3, 0)", 41, () -> x.rebuild(3, 0));
        Due.answers("6: rebuild(3, 58)", 99, () -> x.rebuild(3, 58));
        Due.answers("6: state(3)", 101, () -> x.state(3));
        Due.answers("6: rebuild(3, 0)", 99, () -> x.rebuild(3, 0));
        Due.answers("6: rebuild(3, 1)", 100, () -> x.rebuild(3, 1));
        Due.answers("6: state(3)", 0, () -> x.state(3));
        Due.refusesState("6: rebuild(3, 0) of a sound disk", () -> x.rebuild(3, 0));
        for (int n : new int[] {99, 100, 500, Integer.MAX_VALUE}) {
            x.fail(3);
            x.replace(3);
            x.rebuild(3, 1);
            Due.answers("6: rebuild(3, " + n + ")", 100, () -> x.rebuild(3, n));
            Due.answers("6: state(3)", 0, () -> x.state(3));
        }
        x.fail(3);
        x.replace(3);
        Due.answers("6: rebuild(3, 100)", 100, () -> x.rebuild(3, 100));
        x.fail(3);
        x.replace(3);
        Due.answers("6: rebuild(3, 99)", 99, () -> x.rebuild(3, 99));
    }

    private static void promise6RebuildWritesWhatItHas() {
        for (int disk = 0; disk < 5; disk++) {
            ParityDisks x = new ParityDisks();
            int[] stripes = {0, 1, 2, 3, 4, 5, 98, 99};
            long[] stood = new long[2 * stripes.length];
            for (int i = 0; i < stripes.length; i++) {
                Stripes.fill(x, stripes[i]);
                stood[2 * i] = x.block(disk, stripes[i], 0);
                stood[2 * i + 1] = x.block(disk, stripes[i], 1);
            }
            int d = disk;
            x.fail(d);
            x.replace(d);
            x.flip(d, 0, 0, 77);
            x.flip(d, 99, 1, 78);
            x.rebuild(d, 99);
            Due.answers("6: block not yet rebuilt", 0, () -> x.block(d, 99, 0));
            Due.answers("6: block not yet rebuilt", 78, () -> x.block(d, 99, 1));
            x.rebuild(d, 1);
            for (int i = 0; i < stripes.length; i++) {
                int s = stripes[i];
                Due.answers("6: block(" + d + ", " + s + ", 0)", stood[2 * i], () -> x.block(d, s, 0));
                Due.answers("6: block(" + d + ", " + s + ", 1)", stood[2 * i + 1], () -> x.block(d, s, 1));
            }
            Due.answers("6: scrub()", 0, x::scrub);
        }
        ParityDisks y = new ParityDisks();
        y.fail(1);
        y.replace(1);
        y.rebuild(1, 1);
        y.flip(1, 0, 0, 5);
        y.rebuild(1, 1);
        Due.answers("6: what is rebuilt is not written again", 5, () -> y.block(1, 0, 0));
    }

    private static void promise6RebuildStopsAtLost() {
        ParityDisks x = new ParityDisks();
        x.fail(1);
        x.replace(1);
        x.rebuild(1, 10);
        x.flip(1, 10, 0, 5);
        x.fail(4);
        Due.answers("6: rebuild(1, 100) under a failed disk", 10, () -> x.rebuild(1, 100));
        Due.answers("6: rebuild(1, 0) under a failed disk", 10, () -> x.rebuild(1, 0));
        Due.answers("6: state(1)", 12, () -> x.state(1));
        Due.answers("6: a lost one is not written", 5, () -> x.block(1, 10, 0));
        Due.refusesState("6: rebuild(4, 1) of a failed disk", () -> x.rebuild(4, 1));
    }

    private static void promise6RebuildUnderTwoRebuilt() {
        ParityDisks x = new ParityDisks();
        Stripes.fill(x, 8);
        Stripes.fill(x, 9);
        x.fail(1);
        x.replace(1);
        x.rebuild(1, 9);
        x.fail(2);
        x.replace(2);
        Due.answers("6: rebuild(2, 5)", 5, () -> x.rebuild(2, 5));
        Due.answers("6: rebuild(2, 95)", 9, () -> x.rebuild(2, 95));
        Due.answers("6: rebuild(1, 95)", 9, () -> x.rebuild(1, 95));
        Due.answers("6: state(1)", 11, () -> x.state(1));
        Due.answers("6: state(2)", 11, () -> x.state(2));
        Due.answers("6: block(2, 8, 0)", Stripes.number(34, 0), () -> x.block(2, 8, 0));
        Due.answers("6: block(2, 9, 0), lost", 0, () -> x.block(2, 9, 0));
        Due.answers("6: scrub()", 0, x::scrub);
    }

    private static void promise6Wrong() {
        ParityDisks x = new ParityDisks();
        x.fail(2);
        for (int wrong : NO_DISK) {
            Due.refusesArgument("6: rebuild(" + wrong + ", 1)", () -> x.rebuild(wrong, 1));
        }
        for (int disk = 0; disk < 5; disk++) {
            int d = disk;
            Due.refusesArgument("6: rebuild(" + d + ", -1)", () -> x.rebuild(d, -1));
            Due.refusesArgument("6: rebuild(" + d + ", least)", () -> x.rebuild(d, Integer.MIN_VALUE));
            Due.refusesState("6: rebuild(" + d + ", 0)", () -> x.rebuild(d, 0));
            Due.refusesState("6: rebuild(" + d + ", 1)", () -> x.rebuild(d, 1));
        }
        x.replace(2);
        x.rebuild(2, 3);
        Due.refusesArgument("6: rebuild(2, -1)", () -> x.rebuild(2, -1));
        Due.answers("6: state(2)", 5, () -> x.state(2));
    }

    private static void promise7Flip() {
        for (int disk = 0; disk < 5; disk++) {
            for (int block : new int[] {0, 1, 2, 3, 4, 99}) {
                ParityDisks x = new ParityDisks();
                int d = disk;
                Due.passes("7: flip", () -> x.flip(d, block, 1, 12));
                Due.passes("7: flip", () -> x.flip(d, block, 1, 10));
                Due.passes("7: flip", () -> x.flip(d, block, 0, Long.MIN_VALUE));
                Due.passes("7: flip of no bit", () -> x.flip(d, block, 0, 0));
                for (int other = 0; other < 5; other++) {
                    int o = other;
                    Due.answers("7: block(" + o + ", " + block + ", 1) after flip of disk " + d,
                        o == d ? 6 : 0, () -> x.block(o, block, 1));
                    Due.answers("7: block(" + o + ", " + block + ", 0) after flip of disk " + d,
                        o == d ? Long.MIN_VALUE : 0, () -> x.block(o, block, 0));
                }
            }
        }
    }

    private static void promise7FlipOfWhatCannotBeUsed() {
        ParityDisks x = new ParityDisks();
        x.fail(1);
        Due.refusesState("7: flip of a failed disk", () -> x.flip(1, 0, 0, 1));
        x.replace(1);
        Due.passes("7: flip of a replaced disk", () -> x.flip(1, 0, 0, 1));
        Due.passes("7: flip of a replaced disk", () -> x.flip(1, 99, 1, 2));
        Due.answers("7: block(1, 0, 0)", 1, () -> x.block(1, 0, 0));
        Due.answers("7: block(1, 99, 1)", 2, () -> x.block(1, 99, 1));
        Due.answers("7: read(0, 0)", 0, () -> x.read(0, 0));
        x.rebuild(1, 1);
        Due.answers("7: block(1, 0, 0), rebuilt", 0, () -> x.block(1, 0, 0));
    }

    private static void promise7And8Wrong() {
        ParityDisks x = new ParityDisks();
        x.fail(1);
        for (int wrong : NO_DISK) {
            Due.refusesArgument("7: flip(" + wrong + ", 0, 0, 1)", () -> x.flip(wrong, 0, 0, 1));
            Due.refusesArgument("8: block(" + wrong + ", 0, 0)", () -> x.block(wrong, 0, 0));
        }
        for (int disk = 0; disk < 5; disk++) {
            int d = disk;
            for (int wrong : NO_BLOCK) {
                Due.refusesArgument("7: flip(" + d + ", " + wrong + ", 0, 1)", () -> x.flip(d, wrong, 0, 1));
                Due.refusesArgument("8: block(" + d + ", " + wrong + ", 0)", () -> x.block(d, wrong, 0));
            }
            for (int wrong : NO_HALF) {
                Due.refusesArgument("7: flip(" + d + ", 0, " + wrong + ", 1)", () -> x.flip(d, 0, wrong, 1));
                Due.refusesArgument("8: block(" + d + ", 0, " + wrong + ")", () -> x.block(d, 0, wrong));
            }
        }
        for (int disk : new int[] {0, 2, 3, 4}) {
            for (int block : new int[] {0, 1, 98, 99}) {
                Due.answers("7: nothing changed", 0, () -> x.block(disk, block, 0));
                Due.answers("7: nothing changed", 0, () -> x.block(disk, block, 1));
            }
        }
    }

    private static void promise8Block() {
        ParityDisks x = new ParityDisks();
        x.write(396, 0, 31);
        Due.answers("8: block(0, 99, 0)", 31, () -> x.block(0, 99, 0));
        Due.answers("8: block(4, 99, 0), parity", 31, () -> x.block(4, 99, 0));
        x.fail(0);
        Due.refusesState("8: block(0, 99, 0), failed", () -> x.block(0, 99, 0));
        Due.answers("8: block(4, 99, 0), another failed", 31, () -> x.block(4, 99, 0));
        x.replace(0);
        Due.answers("8: block(0, 99, 0), what stands, not what it has", 0, () -> x.block(0, 99, 0));
        Due.answers("8: read(396, 0), what it has", 31, () -> x.read(396, 0));
        x.fail(3);
        Due.answers("8: block(0, 99, 0), lost", 0, () -> x.block(0, 99, 0));
    }

    private static void promise9Scrub() {
        ParityDisks x = new ParityDisks();
        Stripes.fill(x, 0);
        Stripes.fill(x, 6);
        x.flip(0, 0, 0, 1);
        x.flip(0, 0, 1, 2);
        x.flip(4, 6, 1, 4);
        x.flip(4, 99, 0, 8);
        x.flip(1, 50, 0, 16);
        x.flip(2, 50, 0, 16);
        Due.answers("9: scrub()", 3, x::scrub);
        Due.answers("9: parity flipped in both halves", Stripes.parityOf(0, 0), () -> x.block(0, 0, 0));
        Due.answers("9: parity flipped in both halves", Stripes.parityOf(0, 1), () -> x.block(0, 0, 1));
        Due.answers("9: a flipped place stays", Stripes.number(27, 1) ^ 4, () -> x.block(4, 6, 1));
        Due.answers("9: parity takes it in", Stripes.parityOf(6, 1) ^ 4, () -> x.block(1, 6, 1));
        Due.answers("9: the other half stays", Stripes.parityOf(6, 0), () -> x.block(1, 6, 0));
        Due.answers("9: parity of the last stripe", 0, () -> x.block(4, 99, 0));
        Due.answers("9: flips that undo each other", 16, () -> x.block(1, 50, 0));
        Due.answers("9: flips that undo each other", 16, () -> x.block(2, 50, 0));
        Due.answers("9: scrub() again", 0, x::scrub);

        ParityDisks all = new ParityDisks();
        for (int block = 0; block < 100; block++) {
            all.flip(block % 4, block, block % 2, -1);
        }
        Due.answers("9: scrub() of all", 100, all::scrub);
        Due.answers("9: scrub() again", 0, all::scrub);
    }

    private static void promise9ScrubSkipsWhatCannotBeUsed() {
        for (int disk = 0; disk < 5; disk++) {
            ParityDisks x = new ParityDisks();
            int d = disk;
            int other = (d + 1) % 5;
            x.fail(d);
            for (int block = 0; block < 10; block++) {
                x.flip(other, block, 0, 1);
            }
            Due.answers("9: scrub() with disk " + d + " failed", 0, x::scrub);
            x.replace(d);
            Due.answers("9: scrub() with disk " + d + " replaced", 0, x::scrub);
            x.rebuild(d, 6);
            for (int block = 0; block < 10; block++) {
                x.flip(other, block, 0, 2);
            }
            Due.answers("9: scrub() with disk " + d + " rebuilt up to 6", 6, x::scrub);
            x.rebuild(d, 94);
            Due.answers("9: scrub() with disk " + d + " sound again", 0, x::scrub);
            for (int block = 6; block < 10; block++) {
                int b = block;
                Due.answers("9: block(" + d + ", " + b + ", 0)", 3, () -> x.block(d, b, 0));
            }
        }
    }

    private static void promise10State() {
        for (int disk = 0; disk < 5; disk++) {
            ParityDisks x = new ParityDisks();
            int d = disk;
            Due.answers("10: state, sound", 0, () -> x.state(d));
            x.fail(d);
            Due.answers("10: state, failed", 1, () -> x.state(d));
            x.replace(d);
            for (int upTo = 0; upTo < 100; upTo++) {
                Due.answers("10: state, rebuilt up to " + upTo, 2 + upTo, () -> x.state(d));
                x.rebuild(d, 1);
            }
            Due.answers("10: state, sound again", 0, () -> x.state(d));
            for (int wrong : NO_DISK) {
                Due.refusesArgument("10: state(" + wrong + ")", () -> x.state(wrong));
            }
        }
    }

    private static void promise11Lost() {
        ParityDisks x = new ParityDisks();
        Due.answers("11: lost(), none failed", 0, x::lost);
        x.fail(0);
        Due.answers("11: lost(), one failed", 0, x::lost);
        x.fail(1);
        Due.answers("11: lost(), two failed", 160, x::lost);
        x.fail(2);
        Due.answers("11: lost(), three failed", 240, x::lost);
        x.fail(3);
        Due.answers("11: lost(), four failed", 320, x::lost);
        x.fail(4);
        Due.answers("11: lost(), five failed", 400, x::lost);
        x.replace(4);
        Due.answers("11: lost(), one replaced", 400, x::lost);
    }

    private static void promise11LostOfRebuilt() {
        ParityDisks x = new ParityDisks();
        x.fail(0);
        x.replace(0);
        x.rebuild(0, 95);
        x.fail(4);
        Due.answers("11: lost(), stripes 95 to 99", 8, x::lost);
        x.replace(4);
        x.rebuild(4, 94);
        Due.answers("11: lost(), still stripes 95 to 99", 8, x::lost);
        x.fail(2);
        Due.answers("11: lost(), stripe 94 and 95 to 99", 1 + 12, x::lost);
    }
}
