/** What can be seen of an object, as texts to compare. */
final class Views {
    private Views() {
    }

    /** All that tells one replica's state from another. */
    static String state(OfflineNotes notes, int replica) {
        StringBuilder text = new StringBuilder();
        for (int by = 0; by < notes.replicaCount(); by++) {
            text.append(notes.versionEntry(replica, by)).append(' ');
            for (int counter = 0; counter < notes.counterCount(); counter++) {
                text.append('+').append(notes.increments(replica, counter, by));
                text.append('-').append(notes.decrements(replica, counter, by)).append(' ');
            }
            for (int tag = 0; tag < 16; tag++) {
                int dot = notes.tagDot(replica, tag, by);
                text.append(dot == 0 ? "" : (char) ('a' + tag) + "" + dot + " ");
            }
            for (int register = 0; register < notes.registerCount(); register++) {
                text.append('=').append(notes.entryValue(replica, register, by)).append(' ');
            }
            text.append("; ");
        }
        return text.toString();
    }

    /** All replicas and messages, as far as they can be asked. */
    static String world(OfflineNotes notes) {
        StringBuilder text = new StringBuilder();
        text.append(notes.replicaCount()).append(notes.counterCount()).append(notes.registerCount()).append('\n');
        for (int replica = 0; replica < notes.replicaCount(); replica++) {
            text.append(state(notes, replica)).append('\n');
        }
        for (int message = 0; message < notes.messageCount(); message++) {
            text.append("from ").append(notes.senderOf(message));
            for (int replica = 0; replica < notes.replicaCount(); replica++) {
                text.append(notes.isNews(message, replica) ? " news" : " known");
            }
            text.append('\n');
        }
        return text.toString();
    }

    /** What each message brings to replica 0: changes are made and undone, so that an older one may be lost. */
    static String messages(OfflineNotes notes) {
        StringBuilder text = new StringBuilder();
        for (int message = 0; message < notes.messageCount(); message++) {
            notes.deliver(message, 0);
            text.append("message ").append(message).append(": ").append(state(notes, 0)).append('\n');
            notes.undo();
        }
        return text.toString();
    }

    static String output(OfflineNotes notes) {
        StringBuilder text = new StringBuilder();
        try {
            for (int i = 0; i <= 100; i++) {
                text.append((char) notes.outputByte(i));
            }
        } catch (IndexOutOfBoundsException end) {
            return text.toString();
        }
        return text + " and more";
    }

    static String error(OfflineNotes notes) {
        return notes.errorKind() + "@" + notes.errorOffset();
    }

    /** Replicas, messages, output, recorded changes and saved states; the object is used up by it. */
    static String allButInput(OfflineNotes notes) {
        StringBuilder text = new StringBuilder();
        text.append(world(notes)).append("output ").append(output(notes)).append('\n');
        text.append(undone(notes)).append(messages(notes));
        for (int slot = 0; slot < 2; slot++) {
            text.append(restored(notes, slot));
        }
        return text.toString();
    }

    /** All that can be brought to light; the object is used up by it. */
    static String everything(OfflineNotes notes) {
        return "error " + error(notes) + "\n" + allButInput(notes) + read(notes);
    }

    private static String undone(OfflineNotes notes) {
        StringBuilder text = new StringBuilder();
        try {
            for (int i = 0; i < 20; i++) {
                text.append("undo ").append(notes.undo()).append('\n').append(world(notes));
            }
        } catch (IllegalStateException end) {
            return text.toString();
        }
        return text + "and more\n";
    }

    private static String restored(OfflineNotes notes, int slot) {
        try {
            return "slot " + slot + ": " + notes.restore(slot) + "\n" + world(notes) + messages(notes);
        } catch (IllegalStateException empty) {
            return "slot " + slot + " is empty\n";
        }
    }

    /** The input buffer, by the answer to it as a text. */
    private static String read(OfflineNotes notes) {
        int length = inputLength(notes);
        try {
            return "input " + length + ": " + notes.load(length) + "\n" + world(notes);
        } catch (IllegalArgumentException error) {
            return "input " + length + ": " + error(notes) + "\n";
        }
    }

    /** The length of the input, which grows by a row of spaces if there is room. */
    private static int inputLength(OfflineNotes notes) {
        try {
            return notes.append(Texts.SPACES, Texts.SPACES, Texts.SPACES, Texts.SPACES, Texts.SPACES);
        } catch (IllegalStateException full) {
            return 600;
        }
    }
}
