import java.nio.charset.StandardCharsets;
import java.util.Arrays;
import java.util.NoSuchElementException;

/** What the tests share: counting wrong answers, and putting texts into the buffer. */
final class Check {
    interface Call {
        long answer();
    }

    private static int checked = 0;
    private static int wrong = 0;
    private static String sentence = "";

    private Check() {
    }

    /** The sentence of the document that the next checks are about: printed before the first wrong answer. */
    static void about(String words) {
        sentence = words;
    }

    static void same(String call, long got, long due) {
        check(got == due, call, String.valueOf(got), String.valueOf(due));
    }

    static void same(String call, double got, double due) {
        check(got == due, call, String.valueOf(got), String.valueOf(due));
    }

    static void same(String call, String got, String due) {
        check(got.equals(due), call, got, due);
    }

    static void yes(String what, boolean holds) {
        check(holds, what, "false", "true");
    }

    private static void check(boolean right, String call, String got, String due) {
        checked++;
        if (right) {
            return;
        }
        wrong++;
        if (!sentence.isEmpty()) {
            System.out.println("The document says: " + sentence);
            sentence = "";
        }
        System.out.println(call + " answered " + got + ", due is " + due);
    }

    static void noSuchElement(String call, Call made) {
        same(call, outcome(made), "NoSuchElementException");
    }

    static void illegalArgument(String call, Call made) {
        same(call, outcome(made), "IllegalArgumentException");
    }

    /** The answer as text, or the name of what was thrown. */
    static String outcome(Call made) {
        try {
            return String.valueOf(made.answer());
        } catch (NoSuchElementException | IllegalArgumentException e) {
            return e.getClass().getSimpleName();
        } catch (RuntimeException e) {
            return "unexpected " + e;
        }
    }

    static byte[] bytes(String text) {
        return text.getBytes(StandardCharsets.ISO_8859_1);
    }

    /** Feeds the bytes, filled up with spaces to a multiple of 20, and returns how many were meant. */
    static int feed(ModemLink x, byte[] bytes) {
        byte[] padded = Arrays.copyOf(bytes, (bytes.length + 19) / 20 * 20);
        Arrays.fill(padded, bytes.length, padded.length, (byte) ' ');
        for (int at = 0; at < padded.length; at += 20) {
            x.feed(four(padded, at), four(padded, at + 4), four(padded, at + 8), four(padded, at + 12), four(padded, at + 16));
        }
        return bytes.length;
    }

    private static int four(byte[] from, int at) {
        return (from[at] & 255) << 24 | (from[at + 1] & 255) << 16 | (from[at + 2] & 255) << 8 | from[at + 3] & 255;
    }

    static int load(ModemLink x, String text) {
        return x.load(feed(x, bytes(text)));
    }

    static int query(ModemLink x, String text) {
        return x.query(feed(x, bytes(text)));
    }

    static int send(ModemLink x, int end, String text) {
        return x.send(end, feed(x, bytes(text)));
    }

    static ModemLink loaded(String text) {
        ModemLink x = new ModemLink();
        if (load(x, text) < 0) {
            same("load of " + text, x.errorPosition(), -1);
        }
        return x;
    }

    static String formatted(ModemLink x) {
        int length = x.format();
        StringBuilder text = new StringBuilder();
        for (int at = 0; at < length; at++) {
            text.append((char) x.formattedByte(at));
        }
        return text.toString();
    }

    static String received(ModemLink x, int end) {
        StringBuilder text = new StringBuilder();
        for (int at = 0; x.received(end, at) != ModemLink.NONE; at++) {
            text.append((char) x.received(end, at));
        }
        return text.toString();
    }

    static String words(ModemLink x, int end, boolean writing) {
        StringBuilder text = new StringBuilder();
        for (int at = 0; x.word(end, writing, at) != ModemLink.NONE; at++) {
            text.append((char) x.word(end, writing, at));
        }
        return text.toString();
    }

    /** The events, each as tick:kind:end:rate. */
    static String events(ModemLink x) {
        StringBuilder text = new StringBuilder();
        for (int e = 0; e < x.size(10); e++) {
            text.append(e == 0 ? "" : " ").append(x.event(e, 0)).append(':').append(x.event(e, 1));
            text.append(':').append(x.event(e, 2)).append(':').append(x.event(e, 3));
        }
        return text.toString();
    }

    static void finish() {
        System.out.println(wrong == 0 ? checked + " answers are as due" : wrong + " of " + checked + " answers are not as due");
        if (wrong != 0) {
            System.exit(1);
        }
    }
}
