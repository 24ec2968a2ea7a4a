/** Promises 7 to 13: TAKERS and the YEAR by them, reckoned by hand. */
public final class YearTest {
    private static final String TEXT = "river weeks 5 more 20 back 3;"
        + "village pond 30 water 10 face 20 seep 2; village pond 25 water 4 face 10 seep 1;"
        + "crop 0 drinks 3 brings 5 from 1 to 3; crop 1 drinks 6 brings 9 from 2 to 4;"
        + "sun 1 is 80; sun 1 is 50; flood 1 brings 15 odds 40; loan 0 to 1 of 5 on 0 till 2;";

    public static void main(String[] args) {
        byNobody();
        byFirst();
        bySecond();
        takes();
        wrongNumbers();
        askedAlone();
        behindBack();
        roundedUp();
        order();
        roomAndSea();
        Check.close("YearTest");
    }

    private static void waters(FloodLent x, int village, int... due) {
        for (int week = 0; week < due.length; week++) {
            Check.due("water(" + village + ", " + week + ")", x.water(village, week), due[week]);
        }
    }

    private static void sums(FloodLent x, int... due) {
        for (int what = 0; what < due.length; what++) {
            Check.due("sum(" + what + ")", x.sum(what), due[what]);
        }
    }

    private static void crop(FloodLent x, int crop, int brings, int dry, int first) {
        Check.due("crop(" + crop + ", 0)", x.crop(crop, 0), brings);
        Check.due("crop(" + crop + ", 1)", x.crop(crop, 1), dry);
        Check.due("crop(" + crop + ", 2)", x.crop(crop, 2), first);
    }

    private static void loan(FloodLent x, int loan, int... due) {
        for (int what = 0; what < 4; what++) {
            Check.due("loan(" + loan + ", " + what + ")", x.loan(loan, what), due[what]);
        }
    }

    private static void flood(FloodLent x, int flood, int... due) {
        for (int what = 0; what < 4; what++) {
            Check.due("flood(" + flood + ", " + what + ")", x.flood(flood, what), due[what]);
        }
    }

    private static void byNobody() {
        FloodLent x = Check.with(TEXT);
        waters(x, 0, 3, 0, 0, 0, 0);
        waters(x, 1, 10, 4, 1, 0, 0);
        loan(x, 0, 5, 6, 4, 2);
        flood(x, 0, 0, 0, 0, 0);
        crop(x, 0, 10, 1, 3);
        crop(x, 1, 0, 3, 2);
        sums(x, 10, 0, 2, 5, 3, 6, 0, 0, 0);
        Check.due("first()", x.first(), 2);
    }

    private static void byFirst() {
        FloodLent x = Check.with(TEXT);
        x.takes(0, 0);
        waters(x, 0, 3, 3, 4, 0, 0);
        waters(x, 1, 10, 6, 2, 1, 0);
        loan(x, 0, 5, 6, 6, 0);
        flood(x, 0, 15, 18, 4, 14);
        crop(x, 0, 10, 1, 3);
        crop(x, 1, 0, 3, 2);
        sums(x, 10, 14, 0, 15, 4, 6, 15, 4, 0);
        Check.due("first()", x.first(), 2);
    }

    private static void bySecond() {
        FloodLent x = Check.with(TEXT);
        x.takes(0, 1);
        waters(x, 0, 3, 0, 1, 0, 0);
        waters(x, 1, 10, 19, 8, 1, 0);
        loan(x, 0, 5, 6, 6, 0);
        flood(x, 0, 15, 18, 8, 10);
        crop(x, 0, 10, 1, 3);
        crop(x, 1, 9, 2, 3);
        sums(x, 19, 10, 0, 5, 4, 12, 15, 8, 0);
        Check.due("first()", x.first(), 3);
    }

    private static void takes() {
        FloodLent x = Check.with(TEXT);
        Check.due("takes(0, 1)", x.takes(0, 1), -1);
        Check.due("takes(0, 0)", x.takes(0, 0), 1);
        Check.due("takes(0, -1)", x.takes(0, -1), 0);
        Check.due("takes(0, -1)", x.takes(0, -1), -1);
        x.takes(0, 1);
        Check.due("takes(0, 2)", x.takes(0, 2), -2);
        Check.due("takes(0, -2)", x.takes(0, -2), -2);
        Check.due("takes(1, 0)", x.takes(1, 0), -2);
        Check.due("takes(-1, 0)", x.takes(-1, 0), -2);
        Check.due("nothing happened", x.takes(0, 1), 1);
    }

    private static void wrongNumbers() {
        FloodLent x = Check.with(TEXT);
        int[][] pairs = {{-1, 0}, {2, 0}, {0, -1}, {0, 5}};
        for (int[] p : pairs) {
            Check.due("water(" + p[0] + ", " + p[1] + ")", x.water(p[0], p[1]), -2);
        }
        Check.due("flood(1, 0)", x.flood(1, 0), -2);
        Check.due("flood(-1, 0)", x.flood(-1, 0), -2);
        Check.due("flood(0, 4)", x.flood(0, 4), -2);
        Check.due("flood(0, -1)", x.flood(0, -1), -2);
        Check.due("loan(1, 0)", x.loan(1, 0), -2);
        Check.due("loan(-1, 0)", x.loan(-1, 0), -2);
        Check.due("loan(0, 4)", x.loan(0, 4), -2);
        Check.due("loan(0, -1)", x.loan(0, -1), -2);
        Check.due("crop(2, 0)", x.crop(2, 0), -2);
        Check.due("crop(-1, 0)", x.crop(-1, 0), -2);
        Check.due("crop(0, 3)", x.crop(0, 3), -2);
        Check.due("crop(0, -1)", x.crop(0, -1), -2);
        Check.due("sum(9)", x.sum(9), -2);
        Check.due("sum(-1)", x.sum(-1), -2);
        Check.due("first() without a PLAIN", new FloodLent().first(), -2);
        FloodLent alone = Check.with("river weeks 4 more 0 back 0;");
        sums(alone, 0, 0, 0, 0, 0, 0, 0, 0, 0);
        Check.due("first() of a river alone", alone.first(), -1);
    }

    /** Each asks of the YEAR as it is now, whatever was asked ahead of it. */
    private static void askedAlone() {
        FloodLent x = Check.with(TEXT);
        Check.due("first()", x.first(), 2);
        x.takes(0, 1);
        Check.due("first() by another taker", x.first(), 3);
        x.enough(0);
        Check.due("first() behind enough()", x.first(), 3);
        x.fair(0);
        Check.due("loan() behind fair()", x.loan(0, 1), 6);
        x.enough(1);
        Check.due("flood() behind enough()", x.flood(0, 2), 8);
        x.fair(0);
        Check.due("water() behind fair()", x.water(1, 1), 19);
        x.best();
        Check.due("crop() behind best()", x.crop(1, 0), 9);
        x.safe();
        Check.due("sum() behind safe()", x.sum(0), 19);
        x.takes(0, 0);
        Check.due("melons() by another taker", x.melons(0), 5);
        x.fair(0);
        Check.due("owes() behind fair()", x.owes(1, 0), 0);
    }

    /** What is TAKEN in the WEEK back is PAID, what is TAKEN behind it is SHORT but never due. */
    private static void behindBack() {
        FloodLent x = Check.with("river weeks 4 more 50 back 1; village pond 30 water 5 face 0 seep 0;"
            + "flood 1 brings 10 odds 1; flood 2 brings 10 odds 1;");
        x.takes(0, 0);
        flood(x, 0, 10, 15, 15, 0);
        waters(x, 0, 5, 0, 0, 0);
        Check.due("first()", x.first(), -1);
        x.takes(1, 0);
        flood(x, 1, 10, 15, 0, 15);
        waters(x, 0, 5, 0, 10, 10);
        Check.due("nothing due is not PAID", x.first(), -1);
        sums(x, 0, 15, 0, 0, 0, 0, 20, 15, 10);
    }

    private static void roundedUp() {
        FloodLent x = Check.with("river weeks 4 more 10 back 3; village pond 99 water 0 face 0 seep 0;"
            + "village pond 99 water 99 face 0 seep 0;"
            + "flood 0 brings 10 odds 1; flood 0 brings 11 odds 1; flood 0 brings 0 odds 1; loan 1 to 0 of 1 on 1 till 2;");
        for (int f = 0; f < 3; f++) {
            x.takes(f, 0);
        }
        Check.due("10 and a tenth", x.flood(0, 1), 11);
        Check.due("11 and a tenth", x.flood(1, 1), 13);
        Check.due("0 and a tenth", x.flood(2, 1), 0);
        Check.due("1 and a tenth", x.loan(0, 1), 2);
        x.more(0);
        Check.due("11 and nothing", x.flood(1, 1), 11);
        x.more(100);
        Check.due("11 and all", x.flood(1, 1), 22);
    }

    /** FLOODS, LOANS and CROPS go in order; LOANS are paid ahead of the river. */
    private static void order() {
        FloodLent x = Check.with("river weeks 4 more 0 back 1; village pond 20 water 10 face 0 seep 0;"
            + "village pond 20 water 10 face 0 seep 0; flood 0 brings 7 odds 1; flood 0 brings 7 odds 1;"
            + "loan 1 to 0 of 2 on 0 till 1; loan 0 to 1 of 4 on 0 till 1;"
            + "crop 0 drinks 12 brings 1 from 0 to 0; crop 0 drinks 8 brings 1 from 0 to 0; crop 0 drinks 5 brings 2 from 0 to 0;");
        x.takes(0, 0);
        x.takes(1, 0);
        flood(x, 0, 7, 7, 7, 0);
        flood(x, 1, 3, 3, 1, 2);
        // The pond is full: it borrows nothing, but lends.
        loan(x, 0, 0, 0, 0, 0);
        loan(x, 1, 4, 4, 4, 0);
        crop(x, 0, 1, 0, -1);
        crop(x, 1, 0, 1, 0);
        crop(x, 2, 0, 1, 0);
        waters(x, 0, 4, 0, 0, 0);
        Check.due("first()", x.first(), 0);
        FloodLent y = Check.with("river weeks 4 more 0 back 1; village pond 20 water 0 face 0 seep 0;"
            + "village pond 9 water 9 face 0 seep 0; flood 0 brings 7 odds 1;"
            + "loan 1 to 0 of 5 on 0 till 1; crop 0 drinks 3 brings 0 from 0 to 0; flood 1 brings 4 odds 1;");
        y.takes(0, 0);
        y.takes(1, 1);
        // 9 in the pond; the lender's ROOM is 9 - 4 - 4 when he is paid.
        loan(y, 0, 5, 5, 1, 4);
        flood(y, 0, 7, 7, 7, 0);
        flood(y, 1, 4, 4, 4, 0);
        waters(y, 0, 9, 1, 1, 1);
        waters(y, 1, 4, 5, 5, 5);
        Check.due("first()", y.first(), 1);
    }

    private static void roomAndSea() {
        FloodLent x = Check.with("river weeks 4 more 0 back 1; village pond 50 water 50 face 0 seep 9;"
            + "village pond 20 water 18 face 99 seep 3; village pond 7 water 7 face 33 seep 0; sun 3 is 50;");
        // The 3 of the last but one find no ROOM; of the 9 as much does as has gone there.
        waters(x, 0, 41, 32, 23, 14);
        waters(x, 1, 20, 20, 20, 9);
        waters(x, 2, 7, 7, 7, 0);
        sums(x, 0, 0, 0, 27, 25, 0, 0, 0, 23);
    }
}
