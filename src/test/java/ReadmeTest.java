/** The examples of README.md: each answer that it tells, reckoned by hand. */
public final class ReadmeTest {
    private static final String TEXT = """
        river weeks 6 more 10 back 5;
        village pond 40 water 20 face 20 seep 2;
        village pond 30 water 5 face 10 seep 1;
        crop 0 drinks 3 brings 7 from 1 to 3;
        crop 1 drinks 4 brings 9 from 2 to 4;
        sun 2 is 50;
        flood 1 brings 15 odds 40;
        loan 0 to 1 of 6 on 1 till 4;
        canal 0 costs 101;
        """;

    public static void main(String[] args) {
        oneLine();
        aYear();
        Check.close("ReadmeTest");
    }

    private static void oneLine() {
        FloodLent x = new FloodLent();
        Check.due("feed()", x.feed(0x72697665, 0x72207765, 0x656b7320, 0x34206d6f, 0x72652030), 20);
        Check.due("feed()", x.feed(0x20626163, 0x6b20303b, 0, 0, 0), 40);
        Check.due("end(28)", x.end(28), 28);
        Check.due("plain()", x.plain(), 1);
        Check.due("sum(8)", x.sum(8), 0);
    }

    private static void aYear() {
        FloodLent x = new FloodLent();
        Check.due("plain()", Check.plain(x, TEXT), 9);
        Check.due("takes(0, 1)", x.takes(0, 1), FloodLent.NONE);
        // WEEK by WEEK: 18 and 6; 7 and 28 (TAKEN 15, LENT 6); 0 and 18 (sun); 0 and 13; 5 and 3 (7 PAID); 3 and 2 (3 PAID).
        int[][] water = {{18, 7, 0, 0, 5, 3}, {6, 28, 18, 13, 3, 2}};
        for (int v = 0; v < 2; v++) {
            for (int week = 0; week < 6; week++) {
                Check.due("water(" + v + ", " + week + ")", x.water(v, week), water[v][week]);
            }
        }
        int[] flood = {15, 17, 3, 14};
        int[] loan = {6, 7, 7, 0};
        for (int what = 0; what < 4; what++) {
            Check.due("flood(0, " + what + ")", x.flood(0, what), flood[what]);
            Check.due("loan(0, " + what + ")", x.loan(0, what), loan[what]);
        }
        int[] sums = {41, 14, 0, 9, 5, 18, 15, 3, 5};
        for (int what = 0; what < sums.length; what++) {
            Check.due("sum(" + what + ")", x.sum(what), sums[what]);
        }
        Check.due("first()", x.first(), 3);
        Check.due("crop(0, 2)", x.crop(0, 2), 3);
        // By four of ten 41 less 14; by six of ten 23 less 5.
        Check.due("hope(0)", x.hope(0), 108);
        Check.due("hope(1)", x.hope(1), 5);
        Check.due("share(0)", x.share(0), 50);
        Check.due("share(1)", x.share(1), 51);
    }
}
