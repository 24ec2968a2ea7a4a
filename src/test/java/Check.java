import java.nio.charset.StandardCharsets;

/** Counts answers that are not as they are due, and feeds texts to an object. */
final class Check {
    private static int wrong = 0;
    private static int asked = 0;

    private Check() {
    }

    static void due(String call, long got, long want) {
        asked++;
        if (got != want) {
            wrong++;
            System.out.println(call + " answered " + got + ", due is " + want);
        }
    }

    static void that(String what, boolean so) {
        due(what, so ? 1 : 0, 1);
    }

    static void close(String test) {
        System.out.println(test + ": " + asked + " asked, " + wrong + " wrong");
        if (wrong != 0 || asked == 0) {
            System.exit(1);
        }
    }

    /** Puts a text behind the TAPE: twenty bytes a call, the rest cut off by end(). */
    static void feed(FloodLent x, String text) {
        byte[] bytes = text.getBytes(StandardCharsets.ISO_8859_1);
        int before = x.count(6);
        for (int i = 0; i < bytes.length; i += 20) {
            x.feed(four(bytes, i), four(bytes, i + 4), four(bytes, i + 8), four(bytes, i + 12), four(bytes, i + 16));
        }
        x.end(before + bytes.length);
    }

    private static int four(byte[] bytes, int from) {
        int all = 0;
        for (int i = from; i < from + 4; i++) {
            all = all << 8 | (i < bytes.length ? bytes[i] & 255 : ' ');
        }
        return all;
    }

    static int plain(FloodLent x, String text) {
        feed(x, text);
        return x.plain();
    }

    static FloodLent with(String text) {
        FloodLent x = new FloodLent();
        int lines = plain(x, text);
        if (lines < 0) {
            due("plain() of " + text, lines, 1);
        }
        return x;
    }
}
