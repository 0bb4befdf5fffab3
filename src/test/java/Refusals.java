import java.util.function.Supplier;

/** Calls that must change nothing: those on the wrong side of a range of arguments, and questions. */
final class Refusals {
    interface Use {
        Object of(Notes notes);
    }

    interface UseOf {
        Object of(Notes notes, int number);
    }

    static final Class<IndexOutOfBoundsException> NO_INDEX = IndexOutOfBoundsException.class;
    static final Class<IllegalArgumentException> BAD_ARGUMENT = IllegalArgumentException.class;
    static final Class<IllegalStateException> BAD_STATE = IllegalStateException.class;

    private Refusals() {
    }

    /** A refused call on an object, which is compared with another one that was made in the same way. */
    static void refused(Checks due, Class<? extends RuntimeException> why, Supplier<Notes> made, String what,
            Use call) {
        Notes notes = made.get();
        due.fails(what, why, () -> call.of(notes));
        due.equal("all after " + what, Views.everything(notes), Views.everything(made.get()));
    }

    /** A question, behind which an object is compared with another one that has not been asked. */
    static void unchanged(Checks due, Supplier<Notes> made, Use question) {
        Notes notes = made.get();
        answered(due, notes, "the question", question);
        due.equal("all after the question", Views.everything(notes), Views.everything(made.get()));
    }

    static void answered(Checks due, Notes notes, String what, Use call) {
        String thrown = "";
        try {
            call.of(notes);
        } catch (RuntimeException exception) {
            thrown = exception.getClass().getSimpleName();
        }
        due.equal("what " + what + " threw", thrown, "");
    }

    static void range(Checks due, Class<? extends RuntimeException> why, Supplier<Notes> made, int first,
            int last, UseOf call) {
        for (int number : new int[] {first, last}) {
            if (first <= last) {
                answered(due, made.get(), "the call with " + number, notes -> call.of(notes, number));
            }
        }
        for (int number : new int[] {Integer.MIN_VALUE, first - 1, last + 1, Integer.MAX_VALUE}) {
            refused(due, why, made, "the call with " + number + " beyond " + first + " to " + last,
                    notes -> call.of(notes, number));
        }
    }

    static void replicas(Checks due, UseOf call) {
        for (int count = 1; count <= 4; count++) {
            int replicas = count;
            range(due, NO_INDEX, () -> Worlds.busy(replicas, 2, 2, 2), 0, count - 1, call);
        }
    }

    static void counters(Checks due, UseOf call) {
        for (int count = 0; count <= 4; count++) {
            int counters = count;
            range(due, NO_INDEX, () -> Worlds.busy(2, counters, 1, 1), 0, count - 1, call);
        }
    }

    static void registers(Checks due, UseOf call) {
        for (int count = 0; count <= 4; count++) {
            int registers = count;
            range(due, NO_INDEX, () -> Worlds.busy(2, 1, registers, 1), 0, count - 1, call);
        }
    }

    static void messages(Checks due, UseOf call) {
        for (int count = 0; count <= 6; count++) {
            int messages = count;
            range(due, NO_INDEX, () -> Worlds.busy(3, 1, 1, messages), 0, count - 1, call);
        }
    }

    static void tags(Checks due, UseOf call) {
        range(due, NO_INDEX, Worlds::busy, 0, 15, call);
    }
}
