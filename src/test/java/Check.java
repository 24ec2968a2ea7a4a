import java.nio.charset.StandardCharsets;

/** Counts answers that are not as they are due, and feeds texts to an object. */
final class Check {
    private static final int MOST_TOLD = 50;
    private static int wrong = 0;
    private static int asked = 0;
    private static int sentences = 0;
    private static String sentence = "";

    private Check() {
    }

    /** The sentence of the document by which the answers from here on are due. */
    static void sentence(String words) {
        sentence = "\"" + words + "\": ";
        sentences++;
    }

    static void due(String call, long got, long want) {
        asked++;
        if (got != want) {
            wrong++;
        }
        if (got != want && wrong <= MOST_TOLD) {
            System.out.println(sentence + call + " answered " + got + ", due is " + want);
        }
    }

    static void that(String what, boolean so) {
        due(what, so ? 1 : 0, 1);
    }

    static void close(String test) {
        String held = sentences == 0 ? "" : sentences + " sentences, ";
        System.out.println(test + ": " + held + asked + " asked, " + wrong + " wrong");
        if (wrong != 0 || asked == 0) {
            System.exit(1);
        }
    }

    /** Puts a text behind the TAPE: twenty bytes a call, the rest cut off by end(). */
    static void feed(FloodLent x, String text) {
        byte[] bytes = text.getBytes(StandardCharsets.ISO_8859_1);
        int before = x.count(6);
        for (int i = 0; i < bytes.length; i += 20) {
            x.feed(four(bytes, i), four(bytes, i + 4), four(bytes, i + 8), four(bytes, i + 12), four(bytes, i + 16));
        }
        x.end(before + bytes.length);
    }

    private static int four(byte[] bytes, int from) {
        int all = 0;
        for (int i = from; i < from + 4; i++) {
            all = all << 8 | (i < bytes.length ? bytes[i] & 255 : ' ');
        }
        return all;
    }

    static int plain(FloodLent x, String text) {
        feed(x, text);
        return x.plain();
    }

    /** The text is a PLAIN of so many LINES, without a FAULT. */
    static void fine(String text, int lines) {
        FloodLent x = new FloodLent();
        due("plain() of " + text, plain(x, text), lines);
        due("fault(0) of " + text, x.fault(0), 0);
        due("fault(1) of " + text, x.fault(1), -1);
    }

    /** The text has a FAULT, just where a ^ stands that is taken out of it. */
    static void faulty(String marked, int fault) {
        int place = marked.indexOf('^');
        FloodLent x = new FloodLent();
        due("plain() of " + marked, plain(x, marked.substring(0, place) + marked.substring(place + 1)), -4);
        due("fault(0) of " + marked, x.fault(0), fault);
        due("fault(1) of " + marked, x.fault(1), place);
    }

    static FloodLent with(String text) {
        FloodLent x = new FloodLent();
        int lines = plain(x, text);
        if (lines < 0) {
            due("plain() of " + text, lines, 1);
        }
        return x;
    }
}
