/** Promises 39 to 43, sentence by sentence: each at the bound that it names and on both sides of it. */
public final class SlotsBoundsTest {
    private static final int[] NO_NUMBERS = {-1, Integer.MIN_VALUE, Integer.MAX_VALUE};
    /** The first VILLAGE has 29 less w behind a WEEK w; what seeps goes to the SEA, and the others keep what they have. */
    private static final String POSTS = Tell.river(30, 0, 0) + Tell.village(30, 30, 0, 1) + Tell.village(0, 0) + Tell.village(9999, 127)
        + Tell.village(9999, 128) + Tell.village(9999, 9999);
    private static final int HAS_127 = 2;
    private static final int HAS_128 = 3;
    private static final int HAS_9999 = 4;
    private static final int PROBE = 3;

    public static void main(String[] args) {
        imageKeeps();
        imageWrong();
        restore();
        restoreWrong();
        rowOfZeros();
        rowInPlace();
        rowWrong();
        rowBelowNone();
        writeNumber();
        writeCut();
        writeWrong();
        writeNothing();
        writeBeyond();
        pasteNumbers();
        pasteWithin();
        pasteWrong();
        pasteNothing();
        pasteUnlike();
        pasteBeyond();
        pasteOfNone();
        Check.close("SlotsBoundsTest");
    }

    // ---- IMAGES

    private static void imageKeeps() {
        Check.sentence("39: IMAGE k (0 .. 2) keeps PLAIN, more, TAKERS: 0");
        FloodLent x = new FloodLent();
        for (int k = 0; k < 3; k++) {
            Check.plain(x, Tell.river(10 + k, k, 5 + k) + Tell.village(20 + k, 10 + k, k, 1) + Tell.village(50, 0)
                + Tell.flood(k, 5 + k, 10 * k).repeat(k + 1) + Tell.sun(k, 50) + Tell.canal(0, 7 + k)
                + Tell.crop(0, 1 + k, 2, k, k + 1) + Tell.loan(0, 1, 3 + k, 0, 4));
            x.more(40 + k);
            x.takes(k, k % 2);
            Check.due("image(" + k + ")", x.image(k), 0);
        }
        Check.plain(x, Tell.river(4, 0, 0));
        x.row(0, 0, 3);
        x.feed(0, 0, 0, 0, 0);
        for (int k : new int[] {1, 0, 2, 2, 1}) {
            Check.due("restore(" + k + ")", x.restore(k), 0);
            int[] due = {10 + k, 2, 1, k + 1, 1, 8 + k, 20, 40 + k, 5 + k, 1};
            for (int what = 0; what < 10; what++) {
                Check.due("count(" + what + ") of IMAGE " + k, x.count(what), due[what]);
            }
            int[] village = {20 + k, 10 + k, k, 1, 7 + k};
            for (int what = 0; what < 5; what++) {
                Check.due("village(0, " + what + ") of IMAGE " + k, x.village(0, what), village[what]);
            }
            Check.due("TAKEN", x.flood(k, 0), 5 + k);
            Check.due("LENT", x.loan(0, 0), 3 + k);
            for (int f = 0; f <= k; f++) {
                Check.due("takes(" + f + ", -1) of IMAGE " + k, x.takes(f, -1), f == k ? k % 2 : -1);
            }
        }
        // It keeps what was then: not what changed later, until it is kept again.
        x.restore(0);
        x.more(9);
        x.takes(0, 1);
        x.restore(0);
        Check.due("more", x.count(7), 40);
        Check.due("who took FLOOD 0", x.takes(0, 1), 0);
        x.more(9);
        Check.due("image(0) again", x.image(0), 0);
        x.more(10);
        x.takes(0, -1);
        x.restore(0);
        Check.due("more", x.count(7), 9);
        Check.due("who took FLOOD 0", x.takes(0, 1), 1);
        // No PLAIN is kept, too.
        FloodLent none = new FloodLent();
        Check.due("image(2) of no PLAIN", none.image(2), 0);
        Check.plain(none, POSTS);
        Check.due("restore(2)", none.restore(2), 0);
        Check.due("first() without a PLAIN", none.first(), -2);
        Check.due("count(5) without a PLAIN", none.count(5), 0);
    }

    private static void imageWrong() {
        Check.sentence("39: -2: no such k");
        FloodLent x = Check.with(POSTS);
        x.image(0);
        x.image(2);
        x.more(50);
        for (int k : new int[] {-1, 3, Integer.MIN_VALUE, Integer.MAX_VALUE}) {
            Check.due("image(" + k + ")", x.image(k), -2);
        }
        for (int k = 0; k < 3; k += 2) {
            x.restore(k);
            Check.due("more of IMAGE " + k + ", nothing happened", x.count(7), 0);
        }
        Check.due("restore(1), nothing happened", x.restore(1), -6);
    }

    private static void restore() {
        Check.sentence("40: These are as IMAGE k has them: 0");
        FloodLent x = Check.with(Tell.river(4, 10, 3) + Tell.village(40, 20, 0, 5) + Tell.village(40, 0) + Tell.crop(1, 6, 9, 0, 0) + Tell.flood(0, 10, 50));
        x.takes(0, 1);
        int best = x.best();
        long hope = x.hope(0);
        x.image(1);
        x.more(100);
        x.takes(0, 0);
        x.row(2, 1, 4);
        Check.plain(x, "lake");
        Check.due("restore(1)", x.restore(1), 0);
        Check.due("best()", x.best(), best);
        Check.due("hope(0)", x.hope(0), hope);
        Check.due("flood(0, 1)", x.flood(0, 1), 11);
        Check.due("who took FLOOD 0", x.takes(0, -1), 1);
        Check.due("SLOTS stay", x.write(2, 3, 1), 0);
        Check.due("fault(0) stays", x.fault(0), 1);
        Check.due("restore(1) again", x.restore(1), 0);
        Check.due("who took FLOOD 0", x.takes(0, -1), 1);
    }

    private static void restoreWrong() {
        Check.sentence("40: -2: no such k; -6: it has nothing");
        FloodLent x = Check.with(POSTS);
        for (int k = 0; k < 3; k++) {
            Check.due("restore(" + k + ")", x.restore(k), -6);
            Check.due("the PLAIN stays", x.count(5), 6);
            for (int none : new int[] {-1, 3, Integer.MIN_VALUE, Integer.MAX_VALUE}) {
                Check.due("restore(" + none + ")", x.restore(none), -2);
            }
            x.image(k);
            Check.due("restore(" + k + ")", x.restore(k), 0);
        }
        x.more(33);
        x.restore(3);
        x.restore(-1);
        Check.due("more stays", x.count(7), 33);
    }

    // ---- rows

    /** Whether number i of a SLOT's row is k (0 .. 29); the PROBE's row is written over. */
    private static void is(FloodLent x, int slot, int width, int i, int k) {
        x.row(PROBE, width, 3);
        x.write(PROBE, 1, 29 - k);
        x.paste(slot, i, PROBE, 2, 1);
        Check.due("number " + i + " of SLOT " + slot + " is " + k, x.agree(PROBE), 1);
        x.write(PROBE, 1, 29 - (k + 1) % 30);
        Check.due("number " + i + " of SLOT " + slot + " is not another", x.agree(PROBE), 0);
    }

    private static void are(FloodLent x, int slot, int width, int... numbers) {
        for (int i = 0; i < numbers.length; i++) {
            is(x, slot, width, i, numbers[i]);
        }
        Check.due("there is no number " + numbers.length, x.paste(slot, numbers.length, slot, 0, 1), -7);
    }

    private static void put(FloodLent x, int slot, int width, int... numbers) {
        x.row(slot, width, numbers.length);
        for (int i = 0; i < numbers.length; i++) {
            x.write(slot, i, numbers[i]);
        }
    }

    private static void rowOfZeros() {
        Check.sentence("41: A SLOT (0 .. 3) has a row of n numbers of a WIDTH, all 0");
        FloodLent x = Check.with(POSTS);
        for (int slot = 0; slot < 3; slot++) {
            for (int width = 0; width < 4; width++) {
                for (int n : new int[] {1, 0, 60, 59}) {
                    Check.due("row(" + slot + ", " + width + ", " + n + ")", x.row(slot, width, n), 0);
                    are(x, slot, width, new int[n]);
                    Check.due("write() to the last one", x.write(slot, n - 1, 5), n == 0 ? -7 : 0);
                    Check.due("write() behind it", x.write(slot, n, 5), -7);
                }
            }
        }
        Check.due("row(3, 3, 60)", x.row(3, 3, 60), 0);
        Check.due("write(3, 59, 1)", x.write(3, 59, 1), 0);
        Check.due("write(3, 60, 1)", x.write(3, 60, 1), -7);
    }

    private static void rowInPlace() {
        Check.sentence("41: (in place of another one): 0");
        FloodLent x = Check.with(POSTS);
        put(x, 0, 1, 7, 8, 9);
        put(x, 1, 1, 4, 5, 6);
        Check.due("a shorter one", x.row(0, 1, 2), 0);
        are(x, 0, 1, 0, 0);
        put(x, 0, 1, 7, 8);
        Check.due("a longer one", x.row(0, 1, 4), 0);
        are(x, 0, 1, 0, 0, 0, 0);
        put(x, 0, 1, 7, 8);
        Check.due("one of another WIDTH", x.row(0, 2, 2), 0);
        are(x, 0, 2, 0, 0);
        Check.due("no more of that WIDTH", x.paste(0, 0, 1, 0, 1), -8);
        are(x, 1, 1, 4, 5, 6);
    }

    private static void rowWrong() {
        Check.sentence("41: -2: there is no such SLOT or WIDTH (0 .. 3), or n is above 60");
        FloodLent x = Check.with(POSTS);
        for (int round = 0; round < 2; round++) {
            for (int none : new int[] {-1, 4, Integer.MIN_VALUE, Integer.MAX_VALUE}) {
                for (int n : new int[] {-1, 0, 3, 60, 61, Integer.MIN_VALUE, Integer.MAX_VALUE}) {
                    Check.due("row(" + none + ", 0, " + n + ")", x.row(none, 0, n), -2);
                    Check.due("row(0, " + none + ", " + n + ")", x.row(0, none, n), -2);
                }
            }
            for (int n : new int[] {61, 62, Integer.MAX_VALUE}) {
                Check.due("row(0, 1, " + n + ")", x.row(0, 1, n), -2);
            }
            Check.due("count(9), nothing happened", x.count(9), 2 * round);
            if (round == 0) {
                put(x, 0, 2, 3, 4, 5);
            } else {
                are(x, 0, 2, 3, 4, 5);
            }
            x.row(PROBE, 2, 3);
        }
    }

    private static void rowBelowNone() {
        Check.sentence("41: -3, and the SLOT stays: n is below 0");
        FloodLent x = Check.with(POSTS);
        for (int n : NO_NUMBERS) {
            Check.due("row(2, 2, " + n + ")", x.row(2, 2, n), n < 0 ? -3 : -2);
            Check.due("the SLOT has nothing still", x.write(2, 0, 0), -6);
            Check.due("count(9)", x.count(9), 0);
        }
        put(x, 2, 2, 3, 4, 5);
        for (int width = 0; width < 4; width++) {
            Check.due("row(2, " + width + ", -1)", x.row(2, width, -1), -3);
            Check.due("row(2, " + width + ", -61)", x.row(2, width, -61), -3);
            are(x, 2, 2, 3, 4, 5);
        }
    }

    private static void writeNumber() {
        Check.sentence("42: Number i of the SLOT's row is v: 0");
        FloodLent x = Check.with(POSTS);
        for (int slot = 0; slot < 3; slot++) {
            x.row(slot, slot, 3);
        }
        Check.due("write(1, 0, 9)", x.write(1, 0, 9), 0);
        are(x, 1, 1, 9, 0, 0);
        Check.due("write(1, 2, 8)", x.write(1, 2, 8), 0);
        are(x, 1, 1, 9, 0, 8);
        Check.due("write(1, 1, 7)", x.write(1, 1, 7), 0);
        Check.due("write(1, 0, 0)", x.write(1, 0, 0), 0);
        are(x, 1, 1, 0, 7, 8);
        are(x, 0, 0, 0, 0, 0);
        are(x, 2, 2, 0, 0, 0);
        x.row(0, 0, 60);
        for (int i = 0; i < 60; i++) {
            Check.due("write(0, " + i + ", ..)", x.write(0, i, i % 30), 0);
        }
        for (int i = 0; i < 60; i++) {
            is(x, 0, 0, i, i % 30);
        }
    }

    /** A MARK of a VILLAGE's water in a WIDTH. */
    private static void level(FloodLent x, int width, int village, long v, int due) {
        x.row(0, width, 3);
        x.write(0, 0, village);
        Check.due("write(0, 2, " + v + ")", x.write(0, 2, v), 0);
        Check.due("agree() by " + v + " in WIDTH " + width, x.agree(0), due);
    }

    private static void writeCut() {
        Check.sentence("42: v, cut to its WIDTH; I: numbers of 1, 2, 4 or 8 bytes (WIDTH 0 .. 3)");
        FloodLent x = Check.with(POSTS);
        for (int width = 0; width < 4; width++) {
            long beyond = width == 3 ? 0 : 1L << (8 << width);
            for (long v : new long[] {127, 127 + beyond, 127 - beyond, 127 + 5 * beyond, 127 - 9 * beyond}) {
                level(x, width, HAS_127, v, 1);
                level(x, width, HAS_128, v, 0);
                level(x, width, HAS_128, v + 1, width == 0 ? 0 : 1);
            }
            for (long v : new long[] {9999, 9999 + beyond, 9999 - beyond, 9999 + 3 * beyond}) {
                level(x, width, HAS_9999, v, width == 0 ? 0 : 1);
            }
            // The least bit that is cut off, and the one below it.
            if (width < 3) {
                level(x, width, HAS_127, 127 | 1L << (8 << width), 1);
                level(x, width, HAS_127, 127 | 1L << 63, 1);
                level(x, width, HAS_127, 127 | ~0L << (8 << width), 1);
            }
            level(x, width, HAS_127, 127 | 1L << (8 << width) - 1, 0);
            level(x, width, HAS_127, 127 ^ 64, 0);
        }
        for (int bit = 7; bit < 64; bit++) {
            for (int width = 0; width < 4; width++) {
                level(x, width, HAS_127, 127 | 1L << bit, bit < 8 << width ? 0 : 1);
            }
        }
        // VILLAGE and WEEK are cut as well: 256 and 257 are 0 and 1, 255 is none.
        x.row(0, 0, 3);
        x.write(0, 0, 256);
        x.write(0, 1, 257);
        x.write(0, 2, 256 + 28);
        Check.due("agree() by numbers cut to one byte", x.agree(0), 1);
        x.write(0, 0, 255);
        Check.due("agree() by VILLAGE 255 of one byte", x.agree(0), -2);
        x.write(0, 0, 65536);
        Check.due("agree() by VILLAGE 65,536 of one byte", x.agree(0), 1);
    }

    private static void writeWrong() {
        Check.sentence("42: -2: there is no such SLOT");
        FloodLent x = Check.with(POSTS);
        for (int round = 0; round < 2; round++) {
            for (int none : new int[] {-1, 4, Integer.MIN_VALUE, Integer.MAX_VALUE}) {
                for (int i = -1; i < 4; i++) {
                    Check.due("write(" + none + ", " + i + ", 1)", x.write(none, i, 1), -2);
                }
            }
            x.row(0, 0, 3);
        }
        are(x, 0, 0, 0, 0, 0);
    }

    private static void writeNothing() {
        Check.sentence("42: -6: it has nothing");
        FloodLent x = Check.with(POSTS);
        for (int slot = 0; slot < 4; slot++) {
            for (int i : new int[] {-1, 0, 60}) {
                Check.due("write(" + slot + ", " + i + ", 1)", x.write(slot, i, 1), -6);
            }
            x.row(slot, 0, 1);
            Check.due("write(" + slot + ", 0, 1)", x.write(slot, 0, 1), 0);
        }
    }

    private static void writeBeyond() {
        Check.sentence("42: -7: there is no such number");
        FloodLent x = Check.with(POSTS);
        for (int n : new int[] {0, 1, 3, 59, 60}) {
            x.row(0, 0, 60);
            x.row(0, 0, n);
            for (int i : new int[] {-1, n, n + 1, 60, Integer.MIN_VALUE, Integer.MAX_VALUE}) {
                Check.due("write(0, " + i + ", 5) of " + n, x.write(0, i, 5), -7);
            }
            Check.due("write(0, " + (n - 1) + ", 0) of " + n, x.write(0, n - 1, 0), n == 0 ? -7 : 0);
            are(x, 0, 0, new int[n]);
        }
    }

    private static void pasteNumbers() {
        Check.sentence("43: So many numbers of a SLOT's row, from one on, are put to another one's, from one on, as they were: 0");
        FloodLent x = Check.with(POSTS);
        for (int width = 0; width < 4; width++) {
            put(x, 0, width, 1, 2, 3, 4);
            put(x, 1, width, 5, 6, 7, 8, 9);
            Check.due("paste(0, 1, 1, 2, 2)", x.paste(0, 1, 1, 2, 2), 0);
            are(x, 1, width, 5, 6, 2, 3, 9);
            are(x, 0, width, 1, 2, 3, 4);
            Check.due("paste(0, 0, 1, 0, 4)", x.paste(0, 0, 1, 0, 4), 0);
            are(x, 1, width, 1, 2, 3, 4, 9);
            Check.due("paste(0, 0, 1, 1, 4)", x.paste(0, 0, 1, 1, 4), 0);
            are(x, 1, width, 1, 1, 2, 3, 4);
            Check.due("paste(1, 4, 0, 0, 1)", x.paste(1, 4, 0, 0, 1), 0);
            are(x, 0, width, 4, 2, 3, 4);
            Check.due("paste(1, 0, 0, 3, 1)", x.paste(1, 0, 0, 3, 1), 0);
            are(x, 0, width, 4, 2, 3, 1);
        }
        // Numbers of eight bytes go whole.
        x.row(0, 3, 3);
        x.write(0, 2, 127 + (1L << 40));
        x.row(1, 3, 3);
        x.write(1, 0, HAS_127);
        x.paste(0, 2, 1, 2, 1);
        Check.due("agree() by 127 and more", x.agree(1), 0);
        x.write(0, 2, 127);
        x.paste(0, 2, 1, 2, 1);
        Check.due("agree() by 127", x.agree(1), 1);
        x.row(0, 0, 60);
        put(x, 1, 0, new int[60]);
        x.write(1, 59, 7);
        Check.due("paste(1, 0, 0, 0, 60)", x.paste(1, 0, 0, 0, 60), 0);
        is(x, 0, 0, 59, 7);
    }

    private static void pasteWithin() {
        Check.sentence("43: (or its own), as they were");
        FloodLent x = Check.with(POSTS);
        put(x, 0, 0, 1, 2, 3, 4, 5);
        Check.due("paste(0, 0, 0, 1, 4)", x.paste(0, 0, 0, 1, 4), 0);
        are(x, 0, 0, 1, 1, 2, 3, 4);
        put(x, 0, 0, 1, 2, 3, 4, 5);
        Check.due("paste(0, 1, 0, 0, 4)", x.paste(0, 1, 0, 0, 4), 0);
        are(x, 0, 0, 2, 3, 4, 5, 5);
        put(x, 0, 0, 1, 2, 3, 4, 5);
        Check.due("paste(0, 0, 0, 2, 3)", x.paste(0, 0, 0, 2, 3), 0);
        are(x, 0, 0, 1, 2, 1, 2, 3);
        put(x, 0, 0, 1, 2, 3, 4, 5);
        Check.due("paste(0, 0, 0, 0, 5)", x.paste(0, 0, 0, 0, 5), 0);
        are(x, 0, 0, 1, 2, 3, 4, 5);
        Check.due("paste(0, 0, 0, 4, 1)", x.paste(0, 0, 0, 4, 1), 0);
        are(x, 0, 0, 1, 2, 3, 4, 1);
    }

    private static void pasteWrong() {
        Check.sentence("43: -2: there is no such SLOT");
        FloodLent x = Check.with(POSTS);
        for (int round = 0; round < 2; round++) {
            for (int none : new int[] {-1, 4, Integer.MIN_VALUE, Integer.MAX_VALUE}) {
                Check.due("paste(" + none + ", 0, 0, 0, 1)", x.paste(none, 0, 0, 0, 1), -2);
                Check.due("paste(0, 0, " + none + ", 0, 1)", x.paste(0, 0, none, 0, 1), -2);
                Check.due("paste(1, 0, " + none + ", 0, 1)", x.paste(1, 0, none, 0, 1), -2);
                Check.due("paste(" + none + ", 0, " + none + ", 0, 0)", x.paste(none, 0, none, 0, 0), -2);
                Check.due("paste(" + none + ", -1, 0, -1, -1)", x.paste(none, -1, 0, -1, -1), -2);
            }
            put(x, 0, 0, 1, 2, 3);
        }
        Check.due("paste(0, 0, 3, 0, 1), nothing", x.paste(0, 0, 3, 0, 1), -6);
        are(x, 0, 0, 1, 2, 3);
    }

    private static void pasteNothing() {
        Check.sentence("43: -6: one has nothing");
        FloodLent x = Check.with(POSTS);
        Check.due("paste(0, 0, 0, 0, 0)", x.paste(0, 0, 0, 0, 0), -6);
        put(x, 1, 0, 1, 2, 3);
        for (int n : new int[] {-1, 0, 1, 99}) {
            Check.due("paste(0, 0, 1, 0, " + n + ")", x.paste(0, 0, 1, 0, n), -6);
            Check.due("paste(1, 0, 0, 0, " + n + ")", x.paste(1, 0, 0, 0, n), -6);
            Check.due("paste(0, 0, 2, 0, " + n + ")", x.paste(0, 0, 2, 0, n), -6);
        }
        are(x, 1, 0, 1, 2, 3);
        // A row of none is not nothing.
        x.row(0, 0, 0);
        Check.due("paste(0, 0, 1, 0, 0)", x.paste(0, 0, 1, 0, 0), 0);
    }

    private static void pasteUnlike() {
        Check.sentence("43: -8: they are not of one WIDTH");
        FloodLent x = Check.with(POSTS);
        for (int a = 0; a < 4; a++) {
            for (int b = 0; b < 4; b++) {
                put(x, 0, a, 1, 2, 3);
                put(x, 1, b, 4, 5, 6);
                for (int n : new int[] {0, 1, 3}) {
                    Check.due("paste(0, 0, 1, 0, " + n + ") of WIDTHS " + a + ", " + b, x.paste(0, 0, 1, 0, n), a == b ? 0 : -8);
                }
                for (int n : new int[] {-1, 4, Integer.MIN_VALUE, Integer.MAX_VALUE}) {
                    Check.due("paste(0, 0, 1, 0, " + n + ") of WIDTHS " + a + ", " + b, x.paste(0, 0, 1, 0, n), a == b ? -7 : -8);
                    Check.due("paste(0, " + n + ", 1, 0, 1)", x.paste(0, n, 1, 0, 1), a == b ? -7 : -8);
                    Check.due("paste(0, 0, 1, " + n + ", 1)", x.paste(0, 0, 1, n, 1), a == b ? -7 : -8);
                }
                if (a == b) {
                    are(x, 1, b, 1, 2, 3);
                } else {
                    are(x, 1, b, 4, 5, 6);
                }
                are(x, 0, a, 1, 2, 3);
            }
        }
    }

    private static void pasteBeyond() {
        Check.sentence("43: -7, and nothing happens: some are beyond their rows, or a place or n is below 0");
        FloodLent x = Check.with(POSTS);
        put(x, 0, 1, 1, 2, 3);
        put(x, 1, 1, 4, 5, 6, 7);
        int[][] beyond = {{0, 0, 4}, {1, 0, 3}, {2, 0, 2}, {3, 0, 1}, {0, 2, 3}, {0, 3, 2}, {0, 4, 1}, {-1, 0, 1}, {-1, 0, 2}, {0, -1, 1}, {0, -1, 2},
            {0, 0, -1}, {1, 1, -1}, {3, 4, -1}, {Integer.MAX_VALUE, 0, 1}, {0, Integer.MAX_VALUE, 1}, {0, 0, Integer.MAX_VALUE},
            {1, 1, Integer.MAX_VALUE}, {Integer.MAX_VALUE, 0, Integer.MAX_VALUE}, {Integer.MAX_VALUE, Integer.MAX_VALUE, 2},
            {0, Integer.MAX_VALUE, Integer.MAX_VALUE}, {Integer.MIN_VALUE, 0, 0}, {0, Integer.MIN_VALUE, 0}, {0, 0, Integer.MIN_VALUE},
            {Integer.MIN_VALUE, Integer.MIN_VALUE, Integer.MIN_VALUE}, {2, 0, Integer.MAX_VALUE - 1}, {3, 0, Integer.MIN_VALUE}};
        for (int[] b : beyond) {
            Check.due("paste(0, " + b[0] + ", 1, " + b[1] + ", " + b[2] + ")", x.paste(0, b[0], 1, b[1], b[2]), -7);
        }
        are(x, 0, 1, 1, 2, 3);
        are(x, 1, 1, 4, 5, 6, 7);
        // The shorter row binds either way; a row that was longer once has no more than it has.
        Check.due("paste(1, 0, 0, 0, 4)", x.paste(1, 0, 0, 0, 4), -7);
        Check.due("paste(1, 1, 0, 0, 4)", x.paste(1, 1, 0, 0, 4), -7);
        Check.due("paste(1, 1, 0, 1, 3)", x.paste(1, 1, 0, 1, 3), -7);
        Check.due("paste(0, 1, 0, 0, 3)", x.paste(0, 1, 0, 0, 3), -7);
        are(x, 0, 1, 1, 2, 3);
        x.row(2, 1, 60);
        x.row(2, 1, 3);
        Check.due("paste(1, 0, 2, 0, 4)", x.paste(1, 0, 2, 0, 4), -7);
        Check.due("paste(1, 0, 2, 0, 3)", x.paste(1, 0, 2, 0, 3), 0);
        Check.due("paste(1, 1, 2, 0, 3), up to the end", x.paste(1, 1, 2, 0, 3), 0);
        are(x, 2, 1, 5, 6, 7);
    }

    private static void pasteOfNone() {
        Check.sentence("43: (also where n is 0: a place above how many it has)");
        FloodLent x = Check.with(POSTS);
        put(x, 0, 1, 1, 2, 3);
        put(x, 1, 1, 4, 5, 6, 7);
        for (int i = -1; i <= 5; i++) {
            for (int k = -1; k <= 6; k++) {
                boolean fine = i >= 0 && i <= 3 && k >= 0 && k <= 4;
                Check.due("paste(0, " + i + ", 1, " + k + ", 0)", x.paste(0, i, 1, k, 0), fine ? 0 : -7);
            }
        }
        are(x, 0, 1, 1, 2, 3);
        are(x, 1, 1, 4, 5, 6, 7);
        x.row(0, 1, 0);
        Check.due("paste(0, 0, 1, 4, 0)", x.paste(0, 0, 1, 4, 0), 0);
        Check.due("paste(0, 1, 1, 4, 0)", x.paste(0, 1, 1, 4, 0), -7);
        Check.due("paste(0, 0, 0, 0, 0)", x.paste(0, 0, 0, 0, 0), 0);
        Check.due("paste(0, 0, 0, 0, 1)", x.paste(0, 0, 0, 0, 1), -7);
    }
}
