/** The terms and promises 1 to 3 and 7 to 11 at the edges that the document names, a sentence at a time. */
public final class StripeEdgesTest {
    private static final int DISKS = 5;
    private static final int[] EDGE_STRIPES = {0, 1, 4, 5, 50, 95, 98, 99};
    private static final int[] EDGES_BEHIND_ONE = {1, 4, 5, 50, 95, 98, 99};

    public static void main(String[] args) {
        promise1AllSoundAllZero();
        promise1EveryCallOfAnObject();
        termsParityGoesAround();
        termsCanBeUsedBeforeThat();
        termsCannotBeUsedAtThat();
        termsHasWhatStandsThoughOthersCannot();
        termsHasWhatStandsThoughParityIsWrong();
        termsHasTheExclusiveOrOfTheOthers();
        termsLostIfOneOfTheOthersCannot();
        promise3ParityBeforeAndAtWhereItIsRebuilt();
        promise3PlaceBeforeAndAtWhereItIsRebuilt();
        promise3NeitherBeforeAndAtWhereTheyAreRebuilt();
        promise3HadLostBeforeAndAtWhereTheyAreRebuilt();
        promise3NotRefusedThoughOthersCannot();
        promise3TheSameNumberAgain();
        promise3OneHalfAlone();
        promise7WhetherItCanBeUsedOrNot();
        promise7ParityStays();
        promise7NoBitsAndTwice();
        promise8WhatStandsThere();
        promise9OneHalfOrBoth();
        promise9HalvesAreNotMixed();
        promise9NoneAndAll();
        promise9BeforeAndAtWhereItIsRebuilt();
        promise9ItIsWhatItShouldBeThen();
        promise10EveryState();
        promise11EveryNumberOfFailedDisks();
        promise11BeforeAndAtWhereItIsRebuilt();
        promise11OfAHalfAsOfBoth();
        Due.end();
    }

    /** "All SOUND, all 0": seen through every call that tells something. */
    private static void promise1AllSoundAllZero() {
        ParityDisks x = new ParityDisks();
        for (int disk = 0; disk < DISKS; disk++) {
            int d = disk;
            Due.answers("1: state(" + d + ")", 0, () -> x.state(d));
            for (int block : EDGE_STRIPES) {
                Due.answers("1: block(" + d + ", " + block + ", 0)", 0, () -> x.block(d, block, 0));
                Due.answers("1: block(" + d + ", " + block + ", 1)", 0, () -> x.block(d, block, 1));
            }
        }
        Due.answers("1: scrub()", 0, x::scrub);
        Due.answers("1: lost()", 0, x::lost);
    }

    /** "used for at most 512 calls": the last of them answers as the first. */
    private static void promise1EveryCallOfAnObject() {
        ParityDisks x = new ParityDisks();
        for (int call = 0; call < 256; call++) {
            int place = call * 399 / 255;
            long v = Stripes.number(call, 0);
            Due.passes("1: call " + (2 * call + 1), () -> x.write(place, 0, v));
            Due.answers("1: call " + (2 * call + 2), v, () -> x.read(place, 0));
        }
        ParityDisks y = new ParityDisks();
        for (int round = 0; round < 170; round++) {
            Due.passes("1: fail", () -> y.fail(4));
            Due.passes("1: replace", () -> y.replace(4));
            Due.answers("1: rebuild", 100, () -> y.rebuild(4, Integer.MAX_VALUE));
        }
        Due.answers("1: call 511", 0, y::scrub);
        Due.answers("1: call 512", 0, () -> y.state(4));
    }

    /** "on DISK s % 5 stands its PARITY, on the others, in their order": where the DISKS go around. */
    private static void termsParityGoesAround() {
        ParityDisks x = new ParityDisks();
        int[] stripes = {0, 1, 2, 3, 4, 5, 9, 10, 94, 95, 99};
        int[] parityDisks = {0, 1, 2, 3, 4, 0, 4, 0, 4, 0, 4};
        int[] firstDisks = {1, 0, 0, 0, 0, 1, 0, 1, 0, 1, 0};
        int[] lastDisks = {4, 4, 4, 4, 3, 4, 3, 4, 3, 4, 3};
        for (int i = 0; i < stripes.length; i++) {
            int s = stripes[i];
            int parity = parityDisks[i];
            int first = firstDisks[i];
            int last = lastDisks[i];
            x.write(4 * s, 0, 3);
            x.write(4 * s + 3, 0, 12);
            Due.answers("first place of stripe " + s, 3, () -> x.block(first, s, 0));
            Due.answers("last place of stripe " + s, 12, () -> x.block(last, s, 0));
            Due.answers("parity of stripe " + s, 15, () -> x.block(parity, s, 0));
        }
    }

    /** What stands there is flipped when all is done: told only if the BLOCK can be USED. */
    private static long readOfFlipped(int disk, int stripe, int upTo) {
        ParityDisks x = new ParityDisks();
        Stripes.fill(x, stripe);
        Stripes.rebuildUpTo(x, disk, upTo);
        x.flip(disk, stripe, 1, 1);
        return x.read(Stripes.placeOf(disk, stripe), 1);
    }

    /** "can be USED if its DISK is ... REBUILT and its STRIPE is before that". */
    private static void termsCanBeUsedBeforeThat() {
        for (int disk = 0; disk < DISKS; disk++) {
            for (int upTo : EDGES_BEHIND_ONE) {
                int d = disk;
                int place = Stripes.placeOf(d, upTo - 1);
                if (place != Stripes.NO_PLACE) {
                    Due.answers("read(" + place + ", 1), disk " + d + " rebuilt up to " + upTo,
                        Stripes.number(place, 1) ^ 1, () -> readOfFlipped(d, upTo - 1, upTo));
                }
            }
        }
    }

    private static void termsCannotBeUsedAtThat() {
        for (int disk = 0; disk < DISKS; disk++) {
            for (int upTo : EDGE_STRIPES) {
                int d = disk;
                int place = Stripes.placeOf(d, upTo);
                if (place != Stripes.NO_PLACE) {
                    Due.answers("read(" + place + ", 1), disk " + d + " rebuilt up to " + upTo,
                        Stripes.number(place, 1), () -> readOfFlipped(d, upTo, upTo));
                }
            }
        }
    }

    /** "what stands there, if it can be USED", though none of the others can. */
    private static void termsHasWhatStandsThoughOthersCannot() {
        for (int place : new int[] {0, 3, 16, 19, 396, 399}) {
            ParityDisks x = new ParityDisks();
            Stripes.fill(x, place / 4);
            for (int disk = 0; disk < DISKS; disk++) {
                if (disk != Stripes.diskOf(place)) {
                    x.fail(disk);
                }
            }
            Due.answers("read(" + place + ", 0)", Stripes.number(place, 0), () -> x.read(place, 0));
            Due.answers("read(" + place + ", 1)", Stripes.number(place, 1), () -> x.read(place, 1));
        }
    }

    private static void termsHasWhatStandsThoughParityIsWrong() {
        ParityDisks x = new ParityDisks();
        x.write(0, 0, 5);
        x.flip(0, 0, 0, 2);
        x.flip(2, 0, 0, 16);
        Due.answers("read(0, 0)", 5, () -> x.read(0, 0));
        Due.answers("read(1, 0)", 16, () -> x.read(1, 0));
    }

    /** "else the exclusive or of the other four of its STRIPE", PARITY among them. */
    private static void termsHasTheExclusiveOrOfTheOthers() {
        for (int place : new int[] {0, 3, 4, 7, 8, 11, 12, 15, 16, 19, 396, 399}) {
            ParityDisks x = new ParityDisks();
            int stripe = place / 4;
            int failed = Stripes.diskOf(place);
            long first = 0;
            long second = 0;
            for (int disk = 0; disk < DISKS; disk++) {
                if (disk != failed) {
                    x.flip(disk, stripe, 0, 1L << disk);
                    x.flip(disk, stripe, 1, 1L << (63 - disk));
                    first |= 1L << disk;
                    second |= 1L << (63 - disk);
                }
            }
            x.fail(failed);
            Due.answers("read(" + place + ", 0)", first, () -> x.read(place, 0));
            Due.answers("read(" + place + ", 1)", second, () -> x.read(place, 1));
        }
    }

    /** "if these can; else it is LOST": any one of the other four, PARITY as well as a PLACE. */
    private static void termsLostIfOneOfTheOthersCannot() {
        for (int place : new int[] {0, 3, 4, 7, 8, 11, 12, 15, 16, 19, 396, 399}) {
            for (int other = 0; other < DISKS; other++) {
                if (other == Stripes.diskOf(place)) {
                    continue;
                }
                ParityDisks x = new ParityDisks();
                x.fail(Stripes.diskOf(place));
                Due.answers("read(" + place + ", 0), one failed", 0, () -> x.read(place, 0));
                x.fail(other);
                Due.refusesLost("read(" + place + ", 0), two failed", () -> x.read(place, 0));
                Due.refusesLost("read(" + place + ", 1), two failed", () -> x.read(place, 1));
                x.replace(other);
                Due.refusesLost("read(" + place + ", 0), one replaced", () -> x.read(place, 0));
            }
        }
    }

    /** "PARITY is the exclusive or ..., if PARITY can be USED". */
    private static void promise3ParityBeforeAndAtWhereItIsRebuilt() {
        for (int stripe : EDGE_STRIPES) {
            int parity = stripe % 5;
            ParityDisks x = new ParityDisks();
            Stripes.rebuildUpTo(x, parity, stripe);
            Due.passes("3: write, parity rebuilt up to its stripe", () -> x.write(4 * stripe, 1, 33));
            Due.answers("3: the parity stays", 0, () -> x.block(parity, stripe, 1));
            Due.answers("3: the number stands", 33, () -> x.block(Stripes.diskOf(4 * stripe), stripe, 1));

            ParityDisks y = new ParityDisks();
            Stripes.rebuildUpTo(y, parity, stripe + 1);
            y.flip(parity, stripe, 1, 64);
            Due.passes("3: write, parity rebuilt behind its stripe", () -> y.write(4 * stripe, 1, 33));
            Due.answers("3: the parity is written", 33 ^ 64, () -> y.block(parity, stripe, 1));
            Due.answers("3: the number stands", 33, () -> y.block(Stripes.diskOf(4 * stripe), stripe, 1));
        }
    }

    /** "the new number stands there, if the PLACE can be USED". */
    private static void promise3PlaceBeforeAndAtWhereItIsRebuilt() {
        for (int stripe : EDGE_STRIPES) {
            int place = 4 * stripe + 3;
            int disk = Stripes.diskOf(place);
            ParityDisks x = new ParityDisks();
            Stripes.fill(x, stripe);
            Stripes.rebuildUpTo(x, disk, stripe);
            x.flip(disk, stripe, 0, 64);
            Due.passes("3: write, rebuilt up to its stripe", () -> x.write(place, 0, 33));
            Due.answers("3: what stands there stays", 64, () -> x.block(disk, stripe, 0));
            Due.answers("3: the parity is written", Stripes.parityOf(stripe, 0) ^ Stripes.number(place, 0) ^ 33,
                () -> x.block(stripe % 5, stripe, 0));
            Due.answers("3: read(" + place + ", 0)", 33, () -> x.read(place, 0));

            ParityDisks y = new ParityDisks();
            Stripes.fill(y, stripe);
            Stripes.rebuildUpTo(y, disk, stripe + 1);
            y.flip(disk, stripe, 0, 64);
            Due.passes("3: write, rebuilt behind its stripe", () -> y.write(place, 0, 33));
            Due.answers("3: the number stands", 33, () -> y.block(disk, stripe, 0));
            Due.answers("3: the parity is written", Stripes.parityOf(stripe, 0) ^ Stripes.number(place, 0) ^ 64 ^ 33,
                () -> y.block(stripe % 5, stripe, 0));
        }
    }

    /** "Can neither: it is refused". */
    private static void promise3NeitherBeforeAndAtWhereTheyAreRebuilt() {
        for (int upTo : EDGES_BEHIND_ONE) {
            for (int stripe = upTo - 1; stripe <= upTo; stripe++) {
                int place = 4 * stripe;
                int parity = stripe % 5;
                int disk = Stripes.diskOf(place);
                ParityDisks x = new ParityDisks();
                Stripes.rebuildUpTo(x, parity, upTo);
                Stripes.rebuildUpTo(x, disk, upTo);
                Due.Call write = () -> x.write(place, 0, 33);
                String what = "3: write(" + place + ", 0, 33), both rebuilt up to " + upTo;
                if (stripe < upTo) {
                    Due.passes(what, write);
                } else {
                    Due.refusesLost(what, write);
                }
                int s = stripe;
                long want = stripe < upTo ? 33 : 0;
                Due.answers(what + ", the place", want, () -> x.block(disk, s, 0));
                Due.answers(what + ", the parity", want, () -> x.block(parity, s, 0));
            }
        }
    }

    /** "or is what it HAD LOST: it is refused", though PARITY can be USED. */
    private static void promise3HadLostBeforeAndAtWhereTheyAreRebuilt() {
        for (int upTo : EDGES_BEHIND_ONE) {
            for (int stripe = upTo - 1; stripe <= upTo; stripe++) {
                int place = 4 * stripe + 1;
                int disk = Stripes.diskOf(place);
                ParityDisks x = new ParityDisks();
                Stripes.rebuildUpTo(x, Stripes.diskOf(place + 1), upTo);
                Stripes.rebuildUpTo(x, disk, upTo);
                Due.Call write = () -> x.write(place, 1, 33);
                String what = "3: write(" + place + ", 1, 33), two places rebuilt up to " + upTo;
                if (stripe < upTo) {
                    Due.passes(what, write);
                } else {
                    Due.refusesLost(what, write);
                }
                int s = stripe;
                long want = stripe < upTo ? 33 : 0;
                Due.answers(what + ", the place", want, () -> x.block(disk, s, 1));
                Due.answers(what + ", the parity", want, () -> x.block(s % 5, s, 1));
            }
        }
    }

    /** A PLACE that can be USED is written though three or four others of its STRIPE can't. */
    private static void promise3NotRefusedThoughOthersCannot() {
        for (int place : new int[] {0, 3, 16, 19, 396, 399}) {
            int stripe = place / 4;
            int parity = stripe % 5;
            int disk = Stripes.diskOf(place);
            ParityDisks x = new ParityDisks();
            Stripes.fill(x, stripe);
            for (int other = 0; other < DISKS; other++) {
                if (other != disk && other != parity) {
                    x.fail(other);
                }
            }
            Due.passes("3: write(" + place + ", 0, 33), three failed", () -> x.write(place, 0, 33));
            Due.answers("3: the number stands", 33, () -> x.block(disk, stripe, 0));
            Due.answers("3: the parity is written", Stripes.parityOf(stripe, 0) ^ Stripes.number(place, 0) ^ 33,
                () -> x.block(parity, stripe, 0));
            x.fail(parity);
            Due.passes("3: write(" + place + ", 0, 34), four failed", () -> x.write(place, 0, 34));
            Due.answers("3: the number stands", 34, () -> x.block(disk, stripe, 0));
        }
    }

    /** "PARITY is the exclusive or of what it was, what the PLACE HAD, and the new number": a wrong one stays wrong. */
    private static void promise3TheSameNumberAgain() {
        Seen wrongParity = new Seen(x -> {
            Stripes.fill(x, 0);
            x.flip(0, 0, 0, 64);
        });
        wrongParity.passesUnchanged("3: write of what it has", x -> x.write(0, 0, Stripes.number(0, 0)));
        Seen failed = new Seen(x -> {
            Stripes.fill(x, 0);
            x.flip(0, 0, 0, 64);
            x.fail(1);
        });
        failed.passesUnchanged("3: write of what it has, failed", x -> x.write(0, 0, Stripes.number(0, 0) ^ 64));
    }

    private static void promise3OneHalfAlone() {
        for (int half = 0; half < 2; half++) {
            int h = half;
            ParityDisks x = new ParityDisks();
            Stripes.fill(x, 99);
            x.write(399, h, 33);
            Due.answers("3: the other half of the place", Stripes.number(399, 1 - h), () -> x.block(3, 99, 1 - h));
            Due.answers("3: the other half of the parity", Stripes.parityOf(99, 1 - h), () -> x.block(4, 99, 1 - h));
        }
    }

    /** "(whether it can be USED or not)". */
    private static void promise7WhetherItCanBeUsedOrNot() {
        for (int upTo : EDGES_BEHIND_ONE) {
            ParityDisks x = new ParityDisks();
            Stripes.rebuildUpTo(x, 2, upTo);
            Due.passes("7: flip before " + upTo, () -> x.flip(2, upTo - 1, 1, 35));
            Due.passes("7: flip at " + upTo, () -> x.flip(2, upTo, 1, 36));
            Due.answers("7: block before " + upTo, 35, () -> x.block(2, upTo - 1, 1));
            Due.answers("7: block at " + upTo, 36, () -> x.block(2, upTo, 1));
            x.fail(0);
            Due.passes("7: flip at " + upTo + ", lost", () -> x.flip(2, upTo, 1, 4));
            Due.answers("7: block at " + upTo + ", lost", 32, () -> x.block(2, upTo, 1));
        }
    }

    /** "(PARITY stays)", and so does all else. */
    private static void promise7ParityStays() {
        for (int stripe : EDGE_STRIPES) {
            for (int flipped = 0; flipped < DISKS; flipped++) {
                ParityDisks x = new ParityDisks();
                Stripes.fill(x, stripe);
                x.flip(flipped, stripe, 0, 37);
                for (int disk = 0; disk < DISKS; disk++) {
                    int d = disk;
                    long bits = d == flipped ? 37 : 0;
                    Due.answers("7: half 0 of disk " + d, Stripes.filled(d, stripe, 0) ^ bits,
                        () -> x.block(d, stripe, 0));
                    Due.answers("7: half 1 of disk " + d, Stripes.filled(d, stripe, 1),
                        () -> x.block(d, stripe, 1));
                }
            }
        }
    }

    private static void promise7NoBitsAndTwice() {
        Seen filled = new Seen(x -> Stripes.fill(x, 99));
        filled.passesUnchanged("7: flip(3, 99, 1, 0)", x -> x.flip(3, 99, 1, 0));
        filled.passesUnchanged("7: flip(3, 99, 1, -1) twice", x -> {
            x.flip(3, 99, 1, -1);
            x.flip(3, 99, 1, -1);
        });
    }

    /** "What stands there", not what the BLOCK HAS. */
    private static void promise8WhatStandsThere() {
        for (int upTo : EDGES_BEHIND_ONE) {
            ParityDisks x = new ParityDisks();
            Stripes.fill(x, upTo - 1);
            Stripes.fill(x, upTo);
            Stripes.rebuildUpTo(x, 4, upTo);
            Due.answers("8: block before " + upTo, Stripes.filled(4, upTo - 1, 0), () -> x.block(4, upTo - 1, 0));
            Due.answers("8: block at " + upTo, 0, () -> x.block(4, upTo, 0));
            x.fail(1);
            Due.answers("8: block at " + upTo + ", lost", 0, () -> x.block(4, upTo, 1));
        }
    }

    /** "(in one HALF or both)". */
    private static void promise9OneHalfOrBoth() {
        for (int stripe : EDGE_STRIPES) {
            for (int disk = 0; disk < DISKS; disk++) {
                ParityDisks x = new ParityDisks();
                x.flip(disk, stripe, 0, 1);
                Due.answers("9: scrub(), half 0", 1, x::scrub);
                x.flip(disk, stripe, 1, Long.MIN_VALUE);
                Due.answers("9: scrub(), half 1", 1, x::scrub);
                x.flip(disk, stripe, 0, 8);
                x.flip(disk, stripe, 1, 8);
                Due.answers("9: scrub(), both", 1, x::scrub);
                Due.answers("9: scrub(), none", 0, x::scrub);
            }
        }
    }

    /** The same bits in both HALVES do not undo each other; in one HALF of two BLOCKS they do. */
    private static void promise9HalvesAreNotMixed() {
        ParityDisks x = new ParityDisks();
        x.flip(1, 0, 0, 8);
        x.flip(2, 0, 1, 8);
        x.flip(1, 99, 1, 8);
        x.flip(2, 99, 1, 8);
        Due.answers("9: scrub()", 1, x::scrub);
        Due.answers("9: block(0, 0, 0)", 8, () -> x.block(0, 0, 0));
        Due.answers("9: block(0, 0, 1)", 8, () -> x.block(0, 0, 1));
        Due.answers("9: block(4, 99, 1)", 0, () -> x.block(4, 99, 1));
    }

    private static void promise9NoneAndAll() {
        Seen right = new Seen(x -> {
            Stripes.fill(x, 0);
            Stripes.fill(x, 99);
        });
        right.passesUnchanged("9: scrub(), none wrong", ParityDisks::scrub);
        for (int disk = 0; disk < DISKS; disk++) {
            ParityDisks x = new ParityDisks();
            for (int block = 0; block < 100; block++) {
                x.flip(disk, block, 1, block + 1);
            }
            Due.answers("9: scrub(), all wrong", 100, x::scrub);
            Due.answers("9: scrub(), all right", 0, x::scrub);
        }
    }

    /** "STRIPES, all of which can be USED": the others are neither counted nor changed. */
    private static void promise9BeforeAndAtWhereItIsRebuilt() {
        for (int disk = 0; disk < DISKS; disk++) {
            for (int upTo : EDGES_BEHIND_ONE) {
                scrubBeforeAndAt(disk, upTo);
            }
            Seen failed = new Seen(flippedWith(disk, 0));
            failed.passesUnchanged("9: scrub(), disk " + disk + " rebuilt up to 0", ParityDisks::scrub);
        }
    }

    private static Seen.Calls flippedWith(int disk, int upTo) {
        return x -> {
            Stripes.rebuildUpTo(x, disk, upTo);
            for (int block = 0; block < 100; block++) {
                x.flip((disk + 1) % DISKS, block, 0, 1);
            }
        };
    }

    private static void scrubBeforeAndAt(int disk, int upTo) {
        int flipped = (disk + 1) % DISKS;
        ParityDisks x = new ParityDisks();
        flippedWith(disk, upTo).on(x);
        Due.answers("9: scrub(), disk " + disk + " rebuilt up to " + upTo, upTo, x::scrub);
        for (int stripe = upTo - 1; stripe <= upTo; stripe++) {
            int s = stripe;
            // Where the parity itself was flipped, mending it takes the bit away.
            long was = s % 5 == flipped ? 1 : 0;
            Due.answers("9: parity of stripe " + s, s < upTo ? 1 - was : was, () -> x.block(s % 5, s, 0));
        }
        Due.answers("9: scrub() again", 0, x::scrub);
        x.fail(disk);
        x.flip(flipped, 0, 0, 2);
        Due.answers("9: scrub(), failed", 0, x::scrub);
    }

    /** "it is what it should be then": PARITY, by the PLACES as they stand. */
    private static void promise9ItIsWhatItShouldBeThen() {
        for (int stripe : EDGE_STRIPES) {
            ParityDisks x = new ParityDisks();
            Stripes.fill(x, stripe);
            int place = 4 * stripe + 2;
            x.flip(Stripes.diskOf(place), stripe, 0, 38);
            x.flip(stripe % 5, stripe, 1, 39);
            Due.answers("9: scrub()", 1, x::scrub);
            Due.answers("9: the place stays flipped", Stripes.number(place, 0) ^ 38, () -> x.read(place, 0));
            Due.answers("9: its parity goes along", Stripes.parityOf(stripe, 0) ^ 38,
                () -> x.block(stripe % 5, stripe, 0));
            Due.answers("9: a flipped parity is mended", Stripes.parityOf(stripe, 1),
                () -> x.block(stripe % 5, stripe, 1));
            x.fail(Stripes.diskOf(place));
            Due.answers("9: read out of the others", Stripes.number(place, 0) ^ 38, () -> x.read(place, 0));
            Due.answers("9: read out of the others", Stripes.number(place, 1), () -> x.read(place, 1));
        }
    }

    /** "0 SOUND, 1 FAILED, 2 + the STRIPE up to which it is REBUILT". */
    private static void promise10EveryState() {
        for (int disk = 0; disk < DISKS; disk++) {
            int d = disk;
            ParityDisks x = new ParityDisks();
            Due.answers("10: sound", 0, () -> x.state(d));
            x.fail(d);
            Due.answers("10: failed", 1, () -> x.state(d));
            x.replace(d);
            Due.answers("10: rebuilt up to 0", 2, () -> x.state(d));
            x.rebuild(d, 1);
            Due.answers("10: rebuilt up to 1", 3, () -> x.state(d));
            x.rebuild(d, 98);
            Due.answers("10: rebuilt up to 99", 101, () -> x.state(d));
            x.rebuild(d, 1);
            Due.answers("10: sound again", 0, () -> x.state(d));
            Due.answers("10: another", 0, () -> x.state((d + 1) % DISKS));
        }
    }

    /** None is LOST while one DISK or none FAILED; whichever they are, 160, 240, 320, 400 with more. */
    private static void promise11EveryNumberOfFailedDisks() {
        int[] due = {0, 0, 160, 240, 320, 400};
        for (int failed = 0; failed < 1 << DISKS; failed++) {
            ParityDisks x = new ParityDisks();
            ParityDisks y = new ParityDisks();
            for (int disk = 0; disk < DISKS; disk++) {
                if ((failed >> disk & 1) == 1) {
                    x.fail(disk);
                    y.fail(disk);
                    y.replace(disk);
                }
            }
            int want = due[Integer.bitCount(failed)];
            Due.answers("11: lost(), failed " + Integer.toBinaryString(failed), want, x::lost);
            Due.answers("11: lost(), replaced " + Integer.toBinaryString(failed), want, y::lost);
        }
    }

    /** Two DISKS, one REBUILT up to a STRIPE: two PLACES a STRIPE from there on, one where one of them is PARITY. */
    private static void promise11BeforeAndAtWhereItIsRebuilt() {
        int[] upTos = {0, 1, 5, 94, 95, 96, 98, 99, 100};
        int[] dueOf0And1 = {160, 159, 152, 10, 8, 7, 4, 2, 0};
        int[] dueOf3And4 = {160, 158, 152, 9, 8, 6, 2, 1, 0};
        for (int i = 0; i < upTos.length; i++) {
            int upTo = upTos[i];
            ParityDisks x = new ParityDisks();
            Stripes.rebuildUpTo(x, 0, upTo);
            x.fail(1);
            Due.answers("11: lost(), disk 0 rebuilt up to " + upTo, dueOf0And1[i], x::lost);
            ParityDisks y = new ParityDisks();
            Stripes.rebuildUpTo(y, 4, upTo);
            y.fail(3);
            Due.answers("11: lost(), disk 4 rebuilt up to " + upTo, dueOf3And4[i], y::lost);
        }
    }

    /** "(of a HALF as of both)": as many as read refuses, in either HALF, each counted once. */
    private static void promise11OfAHalfAsOfBoth() {
        for (int half = 0; half < 2; half++) {
            ParityDisks x = new ParityDisks();
            x.write(12, half, 5);
            Stripes.rebuildUpTo(x, 2, 40);
            x.fail(0);
            x.replace(0);
            x.rebuild(0, 7);
            x.fail(4);
            int refused = 0;
            for (int place = 0; place < 400; place++) {
                int p = place;
                int h = half;
                String told = Due.told(() -> "" + x.read(p, h));
                refused += told.equals("throws.UnsupportedOperationException") ? 1 : 0;
            }
            Due.answers("11: lost()", refused, x::lost);
        }
    }
}
