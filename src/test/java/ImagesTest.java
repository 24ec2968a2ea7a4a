/** Promises 39 to 43: IMAGES and SLOTS. What a row holds is seen by agree(): its MARKS tell water. */
public final class ImagesTest {
    private static final String WET = "river weeks 30 more 0 back 29; village pond 9999 water 9999 face 0 seep 99;"
        + "village pond 9999 water 200 face 0 seep 50; flood 0 brings 7 odds 50;";

    public static void main(String[] args) {
        images();
        imagesOfNothing();
        rows();
        writes();
        pastes();
        pastesWithin();
        Check.close("ImagesTest");
    }

    private static void images() {
        FloodLent x = Check.with(WET);
        Check.due("restore(0), nothing", x.restore(0), -6);
        Check.due("restore(3)", x.restore(3), -2);
        Check.due("restore(-1)", x.restore(-1), -2);
        Check.due("image(3)", x.image(3), -2);
        Check.due("image(-1)", x.image(-1), -2);
        x.takes(0, 1);
        Check.due("image(0)", x.image(0), 0);
        x.more(40);
        x.takes(0, 0);
        Check.due("image(2)", x.image(2), 0);
        Check.plain(x, "river weeks 4 more 5 back 1; village pond 3 water 3 face 3 seep 3; sun 1 is 9;");
        x.row(0, 1, 3);
        Check.feed(x, "river");
        Check.due("restore(1), nothing", x.restore(1), -6);
        Check.due("restore(0)", x.restore(0), 0);
        Check.due("LINES", x.count(5), 4);
        Check.due("weeks", x.count(0), 30);
        Check.due("back", x.count(8), 29);
        Check.due("VILLAGES", x.count(1), 2);
        Check.due("pond", x.village(1, 0), 9999);
        Check.due("the TAPE is not of it", x.count(6), 5);
        Check.due("SLOTS are not of it", x.count(9), 1);
        Check.due("more", x.more(1), 0);
        Check.due("TAKERS", x.takes(0, -1), 1);
        Check.due("restore(2)", x.restore(2), 0);
        Check.due("more", x.count(7), 40);
        Check.due("TAKERS", x.takes(0, -1), 0);
        Check.due("restore(0) again", x.restore(0), 0);
        Check.due("IMAGES stay as they were: more", x.count(7), 0);
        Check.due("IMAGES stay as they were: TAKERS", x.takes(0, 1), 1);
        Check.due("no sun of another PLAIN", x.sum(3), 0);
        x.image(2);
        x.takes(0, 0);
        x.restore(2);
        Check.due("an IMAGE in place of another", x.count(7), 0);
        Check.due("an IMAGE in place of another", x.takes(0, -1), 1);
    }

    private static void imagesOfNothing() {
        FloodLent x = new FloodLent();
        Check.due("image(1) of no PLAIN", x.image(1), 0);
        Check.plain(x, WET);
        Check.due("restore(1)", x.restore(1), 0);
        Check.due("no PLAIN", x.sum(0), -2);
        Check.due("no LINES", x.count(5), 0);
    }

    private static void rows() {
        FloodLent x = Check.with(WET);
        Check.due("row(4, 0, 1)", x.row(4, 0, 1), -2);
        Check.due("row(-1, 0, 1)", x.row(-1, 0, 1), -2);
        Check.due("row(0, 4, 1)", x.row(0, 4, 1), -2);
        Check.due("row(0, -1, 1)", x.row(0, -1, 1), -2);
        Check.due("row(0, 0, 61)", x.row(0, 0, 61), -2);
        Check.due("row(0, 0, -1)", x.row(0, 0, -1), -3);
        Check.due("row(4, 0, -1)", x.row(4, 0, -1), -2);
        Check.due("row(0, 4, -1)", x.row(0, 4, -1), -2);
        Check.due("no SLOTS", x.count(9), 0);
        Check.due("row(0, 0, 60)", x.row(0, 0, 60), 0);
        Check.due("row(3, 3, 0)", x.row(3, 3, 0), 0);
        Check.due("SLOTS", x.count(9), 2);
        Check.due("write(0, 59, 1)", x.write(0, 59, 1), 0);
        Check.due("row(0, 0, -1)", x.row(0, 0, -1), -3);
        Check.due("row(0, 0, 61)", x.row(0, 0, 61), -2);
        Check.due("the SLOT stays", x.write(0, 59, 1), 0);
        x.row(1, 1, 3);
        x.write(1, 0, 1);
        x.write(1, 1, 29);
        x.write(1, 2, 77);
        x.row(1, 1, 6);
        x.write(1, 0, 1);
        x.write(1, 2, 249);
        x.write(1, 3, 1);
        x.write(1, 5, 249);
        Check.due("all 0 in place of another", x.agree(1), 2);
    }

    private static void writes() {
        FloodLent x = Check.with(WET);
        Check.due("write(4, 0, 0)", x.write(4, 0, 0), -2);
        Check.due("write(-1, 0, 0)", x.write(-1, 0, 0), -2);
        Check.due("write(0, 0, 0), nothing", x.write(0, 0, 0), -6);
        x.row(0, 0, 3);
        Check.due("write(0, 3, 0)", x.write(0, 3, 0), -7);
        Check.due("write(0, -1, 0)", x.write(0, -1, 0), -7);
        // The only VILLAGE has 60 behind WEEK 1, and nobody can take anything.
        FloodLent y = Check.with("river weeks 4 more 0 back 3; village pond 60 water 60 face 0 seep 0;");
        for (int width = 0; width < 4; width++) {
            y.row(1, width, 3);
            y.write(1, 1, 1);
            Check.due("60 in WIDTH " + width, y.write(1, 2, 60), 0);
            Check.due("is so", y.agree(1), 1);
            long beyond = width == 3 ? 0 : 1L << (8 << width);
            y.write(1, 0, beyond);
            y.write(1, 1, 1 - beyond);
            y.write(1, 2, 60 + 5 * beyond);
            Check.due("what is beyond WIDTH " + width + " is cut", y.agree(1), 1);
            y.write(1, 2, 60 + (1L << (8 << width) - 1));
            Check.due("what is not beyond it is kept", y.agree(1), 0);
            y.write(1, 2, 60);
            y.write(1, 1, 1L << (8 << width) - 1);
            Check.due("no such WEEK", y.agree(1), -2);
        }
        x.row(0, 0, 3);
        x.write(0, 0, 255);
        Check.due("a byte of 255 is below 0", x.agree(0), -2);
    }

    /** A row of as many numbers, at first n, n and 1, .. */
    private static void put(FloodLent x, int slot, int width, int... numbers) {
        x.row(slot, width, numbers.length);
        for (int i = 0; i < numbers.length; i++) {
            x.write(slot, i, numbers[i]);
        }
    }

    private static void pastes() {
        FloodLent x = Check.with(WET);
        Check.due("paste(4, ..)", x.paste(4, 0, 0, 0, 0), -2);
        Check.due("paste(-1, ..)", x.paste(-1, 0, 0, 0, 0), -2);
        Check.due("paste(0, 0, 4, ..)", x.paste(0, 0, 4, 0, 0), -2);
        Check.due("paste(0, 0, -1, ..)", x.paste(0, 0, -1, 0, 0), -2);
        Check.due("paste, both nothing", x.paste(0, 0, 1, 0, 0), -6);
        put(x, 0, 1, 1, 0, 249);
        Check.due("paste to nothing", x.paste(0, 0, 1, 0, 0), -6);
        Check.due("paste from nothing", x.paste(1, 0, 0, 0, 0), -6);
        x.row(1, 2, 3);
        Check.due("paste, not of one WIDTH", x.paste(0, 0, 1, 0, 99), -8);
        put(x, 1, 1, 0, 0, 0, 0);
        int[][] beyond = {{0, 0, 4}, {1, 0, 3}, {0, 2, 3}, {3, 0, 1}, {0, 4, 1}, {4, 0, 0}, {0, 5, 0}, {-1, 0, 1}, {0, -1, 1},
            {0, 0, -1}, {2147483647, 0, 2147483647}, {0, 2147483647, 1}, {1, 1, 2147483647}, {-2147483648, 0, 0}};
        for (int[] b : beyond) {
            Check.due("paste(0, " + b[0] + ", 1, " + b[1] + ", " + b[2] + ")", x.paste(0, b[0], 1, b[1], b[2]), -7);
        }
        Check.due("paste of none at the ends", x.paste(0, 3, 1, 4, 0), 0);
        Check.due("paste of all", x.paste(0, 0, 1, 0, 3), 0);
        x.row(2, 1, 3);
        Check.due("paste back", x.paste(1, 0, 2, 0, 3), 0);
        Check.due("as they were", x.agree(2), 2);
        Check.due("paste of a middle", x.paste(0, 1, 2, 0, 2), 0);
        Check.due("no such VILLAGE, WEEK", x.agree(2), -2);
    }

    private static void pastesWithin() {
        FloodLent x = Check.with(WET);
        // 1, 0, 249 twice, each pushed by one place to and fro.
        put(x, 0, 1, 0, 1, 0, 249, 1, 0, 249);
        Check.due("paste ahead", x.paste(0, 1, 0, 0, 6), 0);
        x.row(1, 1, 6);
        x.paste(0, 0, 1, 0, 6);
        Check.due("ahead, as they were", x.agree(1), 2);
        Check.due("paste behind", x.paste(0, 0, 0, 1, 6), 0);
        x.row(1, 1, 6);
        x.paste(0, 1, 1, 0, 6);
        Check.due("behind, as they were", x.agree(1), 2);
    }
}
