/** What can be seen of an object, as texts to compare. Others like it are asked, so the object stays as it is. */
final class Views {
    private Views() {
    }

    /** All that tells one replica's state from another. */
    static String state(Notes notes, int replica) {
        Notes asked = notes.again();
        int replicas = asked.replicaCount();
        int counters = asked.counterCount();
        int registers = asked.registerCount();
        StringBuilder text = new StringBuilder();
        for (int by = 0; by < replicas; by++) {
            text.append(asked.versionEntry(replica, by)).append(' ');
            for (int counter = 0; counter < counters; counter++) {
                text.append('+').append(asked.increments(replica, counter, by));
                text.append('-').append(asked.decrements(replica, counter, by)).append(' ');
            }
            for (int tag = 0; tag < 16; tag++) {
                int dot = asked.tagDot(replica, tag, by);
                text.append(dot == 0 ? "" : (char) ('a' + tag) + "" + dot + " ");
            }
            for (int register = 0; register < registers; register++) {
                text.append('=').append(asked.entryValue(replica, register, by)).append(' ');
            }
            text.append("; ");
        }
        return text.toString();
    }

    /** All replicas and messages, as far as they can be asked. */
    static String world(Notes notes) {
        Notes asked = notes.again();
        int replicas = asked.replicaCount();
        StringBuilder text = new StringBuilder();
        text.append(replicas).append(asked.counterCount()).append(asked.registerCount()).append('\n');
        for (int replica = 0; replica < replicas; replica++) {
            text.append(state(notes, replica)).append('\n');
        }
        int messages = asked.messageCount();
        for (int message = 0; message < messages; message++) {
            text.append("from ").append(asked.senderOf(message));
            for (int replica = 0; replica < replicas; replica++) {
                text.append(asked.isNews(message, replica) ? " news" : " known");
            }
            text.append('\n');
        }
        return text.toString();
    }

    /** What each message brings to replica 0. */
    static String messages(Notes notes) {
        int count = notes.again().messageCount();
        StringBuilder text = new StringBuilder();
        for (int message = 0; message < count; message++) {
            Notes getting = notes.again();
            getting.deliver(message, 0);
            text.append("message ").append(message).append(": ").append(state(getting, 0)).append('\n');
        }
        return text.toString();
    }

    static String output(Notes notes) {
        Notes asked = notes.again();
        StringBuilder text = new StringBuilder();
        try {
            for (int i = 0; i <= 100; i++) {
                text.append((char) asked.outputByte(i));
            }
        } catch (IndexOutOfBoundsException end) {
            return text.toString();
        }
        return text + " and more";
    }

    static String error(Notes notes) {
        Notes asked = notes.again();
        return asked.errorKind() + "@" + asked.errorOffset();
    }

    /** Replicas, messages, output, recorded changes and saved states. */
    static String allButInput(Notes notes) {
        StringBuilder text = new StringBuilder();
        text.append(world(notes)).append(messages(notes)).append("output ").append(output(notes)).append('\n');
        text.append(undone(notes));
        for (int slot = 0; slot < 2; slot++) {
            text.append(restored(notes, slot));
        }
        return text.toString();
    }

    /** All that can be brought to light. */
    static String everything(Notes notes) {
        return "error " + error(notes) + "\n" + allButInput(notes) + read(notes);
    }

    private static String undone(Notes notes) {
        Notes undoing = notes.again();
        StringBuilder text = new StringBuilder();
        try {
            for (int i = 0; i < 20; i++) {
                text.append("undo ").append(undoing.undo()).append('\n').append(world(undoing));
            }
        } catch (IllegalStateException end) {
            return text + messages(undoing);
        }
        return text + "and more\n";
    }

    private static String restored(Notes notes, int slot) {
        Notes restoring = notes.again();
        try {
            return "slot " + slot + ": " + restoring.restore(slot) + "\n" + world(restoring) + messages(restoring);
        } catch (IllegalStateException empty) {
            return "slot " + slot + " is empty\n";
        }
    }

    /** The input buffer, by the answer to it as a text. */
    private static String read(Notes notes) {
        Notes reading = notes.again();
        int length = inputLength(reading);
        try {
            return "input " + length + ": " + reading.load(length) + "\n" + world(reading);
        } catch (IllegalArgumentException error) {
            return "input " + length + ": " + error(reading) + "\n";
        }
    }

    /** The length of the input, which grows by a row of spaces if there is room. */
    private static int inputLength(Notes notes) {
        try {
            return notes.append(Texts.SPACES, Texts.SPACES, Texts.SPACES, Texts.SPACES, Texts.SPACES);
        } catch (IllegalStateException full) {
            return 600;
        }
    }
}
