import java.nio.charset.StandardCharsets;

/** What the tests share: comparing an answer with the one that is due, and putting texts into the buffer. */
final class Due {
    interface Call {
        Object run();
    }

    private static int wrong = 0;
    private static int looked = 0;
    private static String sentence = "";

    private Due() {
    }

    /** The sentence of the document that the next answers belong to; an answer that is not as due is told with it. */
    static void sentence(String words) {
        sentence = "\"" + words + "\": ";
    }

    /** The call must give this answer (an int, a boolean or a float). */
    static void gives(String what, Object want, Call call) {
        looked++;
        Object got = answer(call);
        if (!want.equals(got)) {
            wrong++;
            System.out.println(sentence + what + " answered " + got + ", due is " + want);
        }
    }

    /** The call must throw an exception of just this class, by a throw statement of the program. */
    static void throwsJust(String what, Class<? extends RuntimeException> want, Call call) {
        gives(what, thrown(want), call);
    }

    static void holds(String what, boolean held) {
        gives(what, true, () -> held);
    }

    /** The answer of a call, or the text of the exception that it throws. */
    static Object answer(Call call) {
        try {
            return call.run();
        } catch (RuntimeException e) {
            return thrown(e.getClass());
        }
    }

    private static String thrown(Class<?> exception) {
        return "throws " + exception.getName();
    }

    /** Appends a text to the buffer, filled up by spaces to a multiple of 20 bytes. */
    static int append(RingStones x, String text) {
        byte[] bytes = text.getBytes(StandardCharsets.ISO_8859_1);
        int length = 0;
        for (int at = 0; at < bytes.length; at += 20) {
            length = x.append(four(bytes, at), four(bytes, at + 4), four(bytes, at + 8), four(bytes, at + 12),
                four(bytes, at + 16));
        }
        return length;
    }

    private static int four(byte[] bytes, int at) {
        int value = 0;
        for (int i = at; i < at + 4; i++) {
            value = value << 8 | (i < bytes.length ? bytes[i] & 255 : ' ');
        }
        return value;
    }

    static int load(RingStones x, String text) {
        append(x, text);
        return x.load(text.length());
    }

    /** A new object with the board of a text; the text must have no error. */
    static RingStones board(String text) {
        RingStones x = new RingStones();
        int code = load(x, text);
        holds("the text " + text + " has no error", code >= 0);
        return x;
    }

    /** The text of a board with these letters, from place 0 on, without an option. */
    static String text(int rings, int sectors, String letters) {
        StringBuilder text = new StringBuilder("board ").append(rings).append(' ').append(sectors).append(';');
        for (int ring = 0; ring < rings; ring++) {
            text.append("row ").append(letters, sectors * ring, sectors * (ring + 1)).append(';');
        }
        return text.toString();
    }

    /** Letters with other ones on these places. */
    static String put(String letters, char letter, int... places) {
        StringBuilder changed = new StringBuilder(letters);
        for (int place : places) {
            changed.setCharAt(place, letter);
        }
        return changed.toString();
    }

    /** The text that was written last, byte by byte. */
    static String written(RingStones x) {
        StringBuilder text = new StringBuilder();
        for (int i = 0; answer(() -> x.writtenByte(text.length())) instanceof Integer; i++) {
            text.append((char) x.writtenByte(i));
        }
        return text.toString();
    }

    /** Whatever can be asked about the board, as one text. */
    static String state(RingStones x) {
        StringBuilder all = new StringBuilder();
        for (int what = 0; what < 12; what++) {
            all.append(x.count(what)).append(' ');
        }
        int places = x.count(0) * x.count(1);
        for (int place = 0; place < places; place++) {
            all.append(x.stone(place)).append(x.reason(place, 1)).append(x.reason(place, 2)).append(' ');
        }
        return all.toString();
    }

    /** Ends the test: with exit code 1 if an answer was not as due. */
    static void end() {
        System.out.println(looked + " answers looked at, " + wrong + " not as due");
        if (wrong != 0) {
            System.exit(1);
        }
    }
}
