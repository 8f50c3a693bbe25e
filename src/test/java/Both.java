import java.util.function.Supplier;

/** An object and a model beside it: each call is made on both and must answer the same. */
final class Both {
    private final ParityDisks disks = new ParityDisks();
    private final Model model = new Model();
    private final String run;

    Both(String run) {
        this.run = run;
    }

    void read(int place, int half) {
        check("read(" + place + ", " + half + ")", model.read(place, half), () -> "" + disks.read(place, half));
    }

    void write(int place, int half, long v) {
        check("write(" + place + ", " + half + ", " + v + ")", model.write(place, half, v),
            done(() -> disks.write(place, half, v)));
    }

    void fail(int disk) {
        check("fail(" + disk + ")", model.fail(disk), done(() -> disks.fail(disk)));
    }

    void replace(int disk) {
        check("replace(" + disk + ")", model.replace(disk), done(() -> disks.replace(disk)));
    }

    void rebuild(int disk, int n) {
        check("rebuild(" + disk + ", " + n + ")", model.rebuild(disk, n), () -> "" + disks.rebuild(disk, n));
    }

    void flip(int disk, int block, int half, long bits) {
        check("flip(" + disk + ", " + block + ", " + half + ", " + bits + ")",
            model.flip(disk, block, half, bits), done(() -> disks.flip(disk, block, half, bits)));
    }

    void block(int disk, int block, int half) {
        check("block(" + disk + ", " + block + ", " + half + ")", model.block(disk, block, half),
            () -> "" + disks.block(disk, block, half));
    }

    void scrub() {
        check("scrub()", model.scrub(), () -> "" + disks.scrub());
    }

    void state(int disk) {
        check("state(" + disk + ")", model.state(disk), () -> "" + disks.state(disk));
    }

    /** For a state that a test means to have reached: the model alone could miss it too. */
    void stateIs(int want, int disk) {
        check("state(" + disk + ")", Integer.toString(want), () -> "" + disks.state(disk));
    }

    void lost() {
        check("lost()", model.lost(), () -> "" + disks.lost());
    }

    private static Supplier<String> done(Due.Call call) {
        return () -> Due.nothing(call);
    }

    private void check(String call, String want, Supplier<String> made) {
        Due.same(run + ": " + call, want, Due.told(made));
    }
}
