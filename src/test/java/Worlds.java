/** Objects that have something of everything: what a refused call could spoil. */
final class Worlds {
    private Worlds() {
    }

    static Notes busy() {
        return busy(3, 2, 2, 3);
    }

    /** The same as busyWithoutInput, with a text of 40 bytes in the input buffer. */
    static Notes busy(int replicas, int counters, int registers, int messages) {
        Notes notes = busyWithoutInput(replicas, counters, registers, messages);
        Texts.append(notes, Texts.bytes("replicas 2 1 1;add 1 p; write 0 0 5     "));
        return notes;
    }

    /**
     * An object of which 10 changes can be undone (others are too old), whose slot 0 is empty and slot 1 is
     * not, with the error 2@11 reported and some output. Replica 0 has all tags, each replica has the tag a.
     */
    static Notes busyWithoutInput(int replicas, int counters, int registers, int messages) {
        Notes notes = Texts.loaded(text(replicas, counters, registers));
        for (int replica = 0; replica < replicas; replica++) {
            for (int counter = 0; counter < counters; counter++) {
                notes.increment(replica, counter, 10 + replica);
                notes.decrement(replica, counter, 20 + counter);
            }
            for (int register = 0; register < registers; register++) {
                notes.write(replica, register, 20 * replica + register);
            }
        }
        notes.save(1);
        notes.mergeAll();
        for (int message = 0; message < messages; message++) {
            notes.addTag(message % replicas, message);
            notes.send(message % replicas);
        }
        fillHistory(notes);
        Texts.error(notes, "replicas 2 9 1");
        notes.writeTags(0);
        return notes;
    }

    private static String text(int replicas, int counters, int registers) {
        StringBuilder text = new StringBuilder();
        text.append("replicas ").append(replicas).append(' ').append(counters).append(' ').append(registers);
        for (char tag = 'a'; tag <= 'p'; tag++) {
            text.append(";add 0 ").append(tag);
        }
        for (int replica = 1; replica < replicas; replica++) {
            text.append(";add ").append(replica).append(" a;add ").append(replica).append(" o");
        }
        return text.toString();
    }

    private static void fillHistory(Notes notes) {
        int last = notes.replicaCount() - 1;
        for (int i = 0; i < 6; i++) {
            notes.addTag(0, i);
            notes.addTag(last, i + 6);
        }
    }

    /** An object with nothing but the numbers of replicas, counters and registers. */
    static Notes empty(int replicas, int counters, int registers) {
        return Texts.loaded("replicas " + replicas + " " + counters + " " + registers);
    }

    /** As full, but each replica has counted with all counters, and all is merged: nothing is zero or absent. */
    static Notes crowded() {
        Notes notes = full();
        for (int replica = 0; replica < 4; replica++) {
            for (int counter = 0; counter < 4; counter++) {
                notes.increment(replica, counter, 50 + 10 * counter + replica);
                notes.decrement(replica, counter, 1 + 8 * counter + 2 * replica);
            }
        }
        notes.mergeAll();
        return notes;
    }

    /** Each of four replicas has added all tags and written all registers, and knows nothing of the others. */
    static Notes full() {
        Notes notes = empty(4, 4, 4);
        for (int replica = 0; replica < 4; replica++) {
            for (int tag = 0; tag < 16; tag++) {
                notes.addTag(replica, tag);
            }
            for (int register = 0; register < 4; register++) {
                notes.write(replica, register, 10 * replica + register);
            }
        }
        return notes;
    }
}
