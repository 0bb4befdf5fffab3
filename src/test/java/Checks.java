/** Counts the checks of one test program, and prints every one that fails. */
final class Checks {
    interface Call {
        void run();
    }

    private final String name;
    private int passed = 0;
    private int failed = 0;

    Checks(String name) {
        this.name = name;
    }

    void equal(String what, long got, long due) {
        that(what + " answered " + got + ", due is " + due, got == due);
    }

    void equal(String what, String got, String due) {
        that(what + " answered " + got + ", due is " + due, got.equals(due));
    }

    void equalDouble(String what, double got, double due) {
        that(what + " answered " + got + ", due is " + due, got == due);
    }

    void yes(String what, boolean got) {
        that(what + " answered false, due is true", got);
    }

    void no(String what, boolean got) {
        that(what + " answered true, due is false", !got);
    }

    void noIndex(String what, Call call) {
        fails(what, IndexOutOfBoundsException.class, call);
    }

    void badArgument(String what, Call call) {
        fails(what, IllegalArgumentException.class, call);
    }

    void badState(String what, Call call) {
        fails(what, IllegalStateException.class, call);
    }

    void fails(String what, Class<? extends RuntimeException> due, Call call) {
        String got = "nothing";
        try {
            call.run();
        } catch (RuntimeException thrown) {
            // the exact class: the machine's own index exceptions are subclasses of the promised one
            got = thrown.getClass().getSimpleName();
        }
        that(what + " threw " + got + ", due is " + due.getSimpleName(), got.equals(due.getSimpleName()));
    }

    void that(String what, boolean holds) {
        if (holds) {
            passed++;
        } else {
            failed++;
            System.out.println(name + ": " + what);
        }
    }

    boolean allPassed() {
        return failed == 0 && passed > 0;
    }

    void finish() {
        System.out.println(name + ": " + passed + " passed, " + failed + " failed");
        if (!allPassed()) {
            System.exit(1);
        }
    }
}
