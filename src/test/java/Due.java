import java.util.function.Supplier;

/** Compares answers with those that are due, prints those that are not, and counts them. */
final class Due {
    interface Answer {
        long get();
    }

    interface Call {
        void make();
    }

    private static final int MOST_PRINTED = 40;

    private static int checks = 0;
    private static int wrong = 0;

    private Due() {
    }

    static void answers(String call, long want, Answer answer) {
        tells(call, Long.toString(want), () -> Long.toString(answer.get()));
    }

    static void passes(String call, Call made) {
        tells(call, "nothing", () -> nothing(made));
    }

    static void refusesArgument(String call, Call made) {
        tells(call, "throws.IllegalArgumentException", () -> nothing(made));
    }

    static void refusesState(String call, Call made) {
        tells(call, "throws.IllegalStateException", () -> nothing(made));
    }

    static void refusesLost(String call, Call made) {
        tells(call, "throws.UnsupportedOperationException", () -> nothing(made));
    }

    static void holds(String what, boolean held) {
        same(what, "true", Boolean.toString(held));
    }

    /** What a call answers as a text, an exception by its exact name. */
    static String told(Supplier<String> call) {
        try {
            return call.get();
        } catch (RuntimeException e) {
            return "throws." + e.getClass().getSimpleName();
        }
    }

    static void same(String call, String want, String got) {
        checks++;
        if (!got.equals(want)) {
            wrong++;
            if (wrong <= MOST_PRINTED) {
                System.out.println(call + " answered " + got + ", due is " + want);
            }
        }
    }

    static void end() {
        System.out.println(checks + " answers looked at, " + wrong + " not as due");
        if (wrong != 0 || checks == 0) {
            System.exit(1);
        }
    }

    private static void tells(String call, String want, Supplier<String> made) {
        same(call, want, told(made));
    }

    static String nothing(Call made) {
        made.make();
        return "nothing";
    }
}
