import java.nio.charset.StandardCharsets;

/** Brings texts into an object's input buffer, and its output buffer into a text. */
final class Texts {
    /** Four spaces, as a number for append. */
    static final int SPACES = 0x20202020;

    private Texts() {
    }

    static void append(Notes notes, byte[] bytes) {
        for (int from = 0; from < bytes.length; from += 20) {
            notes.append(word(bytes, from), word(bytes, from + 4), word(bytes, from + 8), word(bytes, from + 12),
                    word(bytes, from + 16));
        }
    }

    private static int word(byte[] bytes, int from) {
        int word = 0;
        for (int i = from; i < from + 4; i++) {
            // what stands behind the text must not count, so it is made of letters
            word = word << 8 | (i < bytes.length ? bytes[i] & 255 : 'a');
        }
        return word;
    }

    static byte[] bytes(String text) {
        return text.getBytes(StandardCharsets.ISO_8859_1);
    }

    static int load(Notes notes, String text) {
        append(notes, bytes(text));
        return notes.load(text.length());
    }

    static Notes loaded(String text) {
        Notes notes = new Notes();
        load(notes, text);
        return notes;
    }

    /** The error of a text, as kind@offset. */
    static String error(Notes notes, String text) {
        try {
            load(notes, text);
        } catch (IllegalArgumentException expected) {
            return notes.errorKind() + "@" + notes.errorOffset();
        }
        return "loaded " + notes.errorKind() + "@" + notes.errorOffset();
    }

    static String output(Notes notes, int length) {
        StringBuilder text = new StringBuilder();
        for (int i = 0; i < length; i++) {
            text.append((char) notes.outputByte(i));
        }
        return text.toString();
    }

    static String tags(Notes notes, int replica) {
        return output(notes, notes.writeTags(replica));
    }

    static String register(Notes notes, int replica, int register) {
        return output(notes, notes.writeRegister(replica, register));
    }
}
