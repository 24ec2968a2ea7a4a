/** Promises 7 to 13 with term II, sentence by sentence: each at the bound that it names and on both sides of it. */
public final class YearBoundsTest {
    private static final int[] NO_NUMBERS = {-1, Integer.MIN_VALUE, Integer.MAX_VALUE};

    public static void main(String[] args) {
        nobodyAtFirst();
        taken();
        floodsInOrder();
        roundedUp();
        lent();
        loansInOrder();
        paid();
        dueInOrder();
        lentAheadOfDue();
        loansAheadOfFloods();
        paidToTheRiver();
        backWeek();
        floodsPaidInOrder();
        cropWater();
        cropWeeks();
        cropsInOrder();
        stepsAheadOfCrops();
        sky();
        skyBehindCrops();
        seeps();
        seepsToNext();
        seepsFromTheLast();
        shortAtTheEnd();
        takes();
        takesRefused();
        water();
        flood();
        loan();
        crop();
        sum();
        first();
        Check.close("YearBoundsTest");
    }

    private static void waters(FloodLent x, int village, int... due) {
        for (int week = 0; week < due.length; week++) {
            Check.due("water(" + village + ", " + week + ")", x.water(village, week), due[week]);
        }
    }

    private static void flood(FloodLent x, int flood, int... due) {
        for (int what = 0; what < 4; what++) {
            Check.due("flood(" + flood + ", " + what + ")", x.flood(flood, what), due[what]);
        }
    }

    private static void loan(FloodLent x, int loan, int... due) {
        for (int what = 0; what < 4; what++) {
            Check.due("loan(" + loan + ", " + what + ")", x.loan(loan, what), due[what]);
        }
    }

    private static void crop(FloodLent x, int crop, int... due) {
        for (int what = 0; what < 3; what++) {
            Check.due("crop(" + crop + ", " + what + ")", x.crop(crop, what), due[what]);
        }
    }

    // ---- 1: each FLOOD of it, in order

    private static void nobodyAtFirst() {
        Check.sentence("II: TAKERS: for each FLOOD a VILLAGE, or nobody (at first)");
        FloodLent x = Check.with(Tell.river(4, 50, 1) + Tell.village(20, 5) + Tell.flood(0, 4, 100) + Tell.flood(0, 4, 100));
        flood(x, 0, 0, 0, 0, 0);
        flood(x, 1, 0, 0, 0, 0);
        waters(x, 0, 5, 5, 5, 5);
        Check.due("who took FLOOD 0", x.takes(0, 0), -1);
        flood(x, 0, 4, 6, 6, 0);
        flood(x, 1, 0, 0, 0, 0);
        Check.due("who took FLOOD 0", x.takes(0, -1), 0);
        flood(x, 0, 0, 0, 0, 0);
    }

    private static void taken() {
        Check.sentence("II: ROOM of a VILLAGE: its pond less its water; as much as he has ROOM for is TAKEN");
        int[][] cases = {{20, 12, 7, 7}, {20, 12, 8, 8}, {20, 12, 9, 8}, {20, 12, 0, 0}, {20, 20, 5, 0}, {20, 19, 5, 1}, {20, 0, 19, 19},
            {20, 0, 20, 20}, {20, 0, 21, 20}, {0, 0, 5, 0}, {9999, 0, 9999, 9999}, {9999, 1, 9999, 9998}};
        for (int[] c : cases) {
            FloodLent x = Check.with(Tell.river(4, 0, 0) + Tell.village(c[0], c[1]) + Tell.flood(1, c[2], 50));
            x.takes(0, 0);
            flood(x, 0, c[3], c[3], 0, c[3]);
            waters(x, 0, c[1], c[1] + c[3], c[1] + c[3]);
        }
    }

    private static void floodsInOrder() {
        Check.sentence("II: 1 each FLOOD of it, in order, if somebody takes it");
        FloodLent x = Check.with(Tell.river(4, 0, 0) + Tell.village(20, 7) + Tell.village(20, 7)
            + Tell.flood(1, 6, 50) + Tell.flood(1, 6, 50) + Tell.flood(1, 6, 50));
        x.takes(0, 0);
        x.takes(1, 0);
        x.takes(2, 0);
        int[] byOne = {6, 6, 1};
        for (int f = 0; f < 3; f++) {
            Check.due("flood(" + f + ", 0) by one", x.flood(f, 0), byOne[f]);
        }
        x.takes(1, 1);
        for (int f = 0; f < 3; f++) {
            Check.due("flood(" + f + ", 0) by two", x.flood(f, 0), 6);
        }
        x.takes(0, -1);
        Check.due("flood(0, 0) by nobody", x.flood(0, 0), 0);
        waters(x, 0, 7, 13, 13, 13);
        waters(x, 1, 7, 13, 13, 13);
        // An earlier WEEK is ahead of a lesser number.
        FloodLent y = Check.with(Tell.river(4, 0, 0) + Tell.village(20, 12) + Tell.flood(3, 6, 50) + Tell.flood(2, 6, 50));
        y.takes(0, 0);
        y.takes(1, 0);
        Check.due("flood(0, 0) behind", y.flood(0, 0), 2);
        Check.due("flood(1, 0) ahead", y.flood(1, 0), 6);
        waters(y, 0, 12, 12, 18, 20);
    }

    private static void roundedUp() {
        Check.sentence("II: it is owed to the river: with more, the part of a hundred more rounded up");
        int[][] cases = {{100, 7, 107}, {50, 3, 52}, {1, 1, 2}, {99, 1, 100}, {100, 1, 101}, {101, 1, 103}, {100, 99, 199}, {100, 100, 200},
            {3, 33, 4}, {3, 34, 5}, {200, 50, 300}, {201, 50, 302}, {5, 0, 5}, {0, 100, 0}, {0, 0, 0}, {9999, 0, 9999}, {9999, 1, 10099},
            {9999, 99, 19899}, {9999, 100, 19998}};
        for (int[] c : cases) {
            FloodLent x = Check.with(Tell.river(4, c[1], 0) + Tell.village(9999, 0) + Tell.flood(1, c[0], 50));
            x.takes(0, 0);
            flood(x, 0, c[0], c[2], 0, c[2]);
        }
        Check.sentence("II: LENT ..; it is owed with more likewise");
        for (int[] c : cases) {
            if (c[0] > 0) {
                FloodLent x = Check.with(Tell.river(4, c[1], 0) + Tell.village(9999, 9999) + Tell.village(9999, 0) + Tell.loan(0, 1, c[0], 0, 3));
                Check.due("loan(0, 0)", x.loan(0, 0), c[0]);
                Check.due("loan(0, 1)", x.loan(0, 1), c[2]);
                // What there is, the debtor pays: no more than was LENT.
                Check.due("loan(0, 2)", x.loan(0, 2), c[0]);
                Check.due("loan(0, 3)", x.loan(0, 3), c[2] - c[0]);
            }
        }
    }

    // ---- 2: each LOAN on it, in order

    private static void lent() {
        Check.sentence("II: LENT is the least of what is told, the lender's water, the other's ROOM");
        int[][] cases = {{4, 5, 5, 4}, {5, 4, 5, 4}, {5, 5, 4, 4}, {5, 5, 5, 5}, {4, 5, 6, 4}, {6, 4, 5, 4}, {6, 5, 4, 4}, {1, 0, 5, 0}, {1, 5, 0, 0},
            {1, 1, 1, 1}, {1, 0, 0, 0}, {9999, 99, 50, 50}, {9999, 30, 50, 30}, {50, 99, 50, 50}};
        for (int[] c : cases) {
            FloodLent x = Check.with(Tell.river(4, 0, 0) + Tell.village(99, c[1]) + Tell.village(50, 50 - c[2]) + Tell.loan(0, 1, c[0], 1, 3));
            Check.due("loan(0, 0) of the least of " + c[0] + ", " + c[1] + ", " + c[2], x.loan(0, 0), c[3]);
            waters(x, 0, c[1], c[1] - c[3], c[1] - c[3], c[1]);
            waters(x, 1, 50 - c[2], 50 - c[2] + c[3], 50 - c[2] + c[3], 50 - c[2]);
        }
    }

    private static void loansInOrder() {
        Check.sentence("II: 2 each LOAN on it, in order");
        FloodLent x = Check.with(Tell.river(4, 0, 0) + Tell.village(99, 10) + Tell.village(99, 0) + Tell.loan(0, 1, 6, 0, 3)
            + Tell.loan(0, 1, 6, 0, 2) + Tell.loan(0, 1, 6, 0, 1));
        int[] lent = {6, 4, 0};
        for (int l = 0; l < 3; l++) {
            Check.due("loan(" + l + ", 0)", x.loan(l, 0), lent[l]);
        }
        // What the first one brings the second may lend on, but not the other way.
        FloodLent y = Check.with(Tell.river(4, 0, 0) + Tell.village(99, 8) + Tell.village(99, 0) + Tell.village(99, 0)
            + Tell.loan(0, 1, 8, 0, 3) + Tell.loan(1, 2, 5, 0, 3));
        Check.due("lent on", y.loan(1, 0), 5);
        FloodLent z = Check.with(Tell.river(4, 0, 0) + Tell.village(99, 8) + Tell.village(99, 0) + Tell.village(99, 0)
            + Tell.loan(1, 2, 5, 0, 3) + Tell.loan(0, 1, 8, 0, 3));
        Check.due("nothing to lend yet", z.loan(0, 0), 0);
        Check.due("nothing is owed then", z.loan(0, 1), 0);
        Check.due("lent behind it", z.loan(1, 0), 8);
        // A FLOOD comes ahead of them: it is lent, and takes ROOM.
        FloodLent f = Check.with(Tell.river(4, 0, 0) + Tell.village(20, 0) + Tell.village(20, 11) + Tell.loan(0, 1, 9, 1, 3)
            + Tell.flood(1, 5, 50));
        f.takes(0, 0);
        Check.due("of a FLOOD", f.loan(0, 0), 5);
        f.takes(0, 1);
        Check.due("nothing to lend", f.loan(0, 0), 0);
        FloodLent g = Check.with(Tell.river(4, 0, 0) + Tell.village(20, 20) + Tell.village(20, 11) + Tell.loan(0, 1, 9, 1, 3)
            + Tell.flood(1, 5, 50));
        Check.due("all the ROOM", g.loan(0, 0), 9);
        g.takes(0, 1);
        Check.due("the ROOM that a FLOOD leaves", g.loan(0, 0), 4);
    }

    // ---- 3: what is due

    /** 10 are owed; behind WEEK 1 the debtor has some water and the lender some ROOM. */
    private static FloodLent owing(int debtorHas, int lenderRoom) {
        FloodLent x = Check.with(Tell.river(4, 0, 0) + Tell.village(40, 30) + Tell.village(50, 20) + Tell.loan(0, 1, 10, 0, 2)
            + Tell.crop(1, 30 - debtorHas, 0, 0, 0) + Tell.flood(1, 20 - lenderRoom, 50));
        x.takes(0, 0);
        return x;
    }

    private static void paid() {
        Check.sentence("II: of each LOAN till it PAID is the least of what is owed, the debtor's water, the lender's ROOM");
        int[][] cases = {{10, 10, 10}, {9, 10, 9}, {10, 9, 9}, {11, 10, 10}, {10, 11, 10}, {11, 11, 10}, {9, 8, 8}, {8, 9, 8}, {0, 10, 0}, {10, 0, 0},
            {1, 1, 1}, {0, 0, 0}, {29, 20, 10}};
        for (int[] c : cases) {
            FloodLent x = owing(c[0], c[1]);
            Check.due("water of the debtor", x.water(1, 1), c[0]);
            Check.due("water of the lender", x.water(0, 1), 40 - c[1]);
            loan(x, 0, 10, 10, c[2], 10 - c[2]);
            Check.due("water of the debtor then", x.water(1, 2), c[0] - c[2]);
            Check.due("water of the lender then", x.water(0, 2), 40 - c[1] + c[2]);
            Check.due("first()", x.first(), c[2] < 10 ? 2 : -1);
            Check.due("sum(2)", x.sum(2), 10 - c[2]);
        }
    }

    private static void dueInOrder() {
        Check.sentence("II: 3 what is due: of each LOAN till it, in order");
        FloodLent x = Check.with(Tell.river(4, 0, 0) + Tell.village(50, 20) + Tell.village(50, 0) + Tell.loan(0, 1, 6, 1, 3)
            + Tell.loan(0, 1, 6, 0, 3) + Tell.crop(1, 4, 0, 2, 2));
        loan(x, 0, 6, 6, 6, 0);
        loan(x, 1, 6, 6, 2, 4);
        FloodLent y = Check.with(Tell.river(4, 0, 0) + Tell.village(50, 50) + Tell.village(50, 0) + Tell.loan(0, 1, 6, 0, 3)
            + Tell.loan(0, 1, 6, 0, 3) + Tell.flood(1, 5, 50));
        y.takes(0, 0);
        loan(y, 0, 6, 6, 6, 0);
        loan(y, 1, 6, 6, 1, 5);
        // In its WEEK alone, neither ahead nor behind.
        FloodLent z = Check.with(Tell.river(4, 0, 0) + Tell.village(50, 20) + Tell.village(50, 0) + Tell.loan(0, 1, 6, 0, 2));
        waters(z, 0, 14, 14, 20, 20);
        waters(z, 1, 6, 6, 0, 0);
        // What the first one pays the second may be paid of.
        FloodLent w = Check.with(Tell.river(4, 0, 0) + Tell.village(50, 9) + Tell.village(50, 9) + Tell.village(50, 0)
            + Tell.loan(1, 2, 9, 0, 2) + Tell.loan(0, 1, 9, 0, 2) + Tell.crop(1, 9, 0, 1, 1));
        loan(w, 0, 9, 9, 9, 0);
        loan(w, 1, 9, 9, 9, 0);
    }

    private static void lentAheadOfDue() {
        Check.sentence("II: 2 each LOAN on it; 3 what is due");
        FloodLent x = Check.with(Tell.river(4, 0, 0) + Tell.village(50, 5) + Tell.village(50, 0) + Tell.village(50, 5)
            + Tell.loan(0, 1, 5, 0, 1) + Tell.crop(1, 5, 0, 0, 0) + Tell.loan(2, 1, 5, 1, 3));
        loan(x, 0, 5, 5, 5, 0);
        loan(x, 1, 5, 5, 0, 5);
        // What is paid back in a WEEK can't be lent in it.
        FloodLent y = Check.with(Tell.river(4, 0, 0) + Tell.village(50, 5) + Tell.village(50, 0) + Tell.loan(0, 1, 5, 0, 1)
            + Tell.loan(0, 1, 5, 1, 3) + Tell.loan(0, 1, 5, 2, 3));
        Check.due("in the WEEK of paying", y.loan(1, 0), 0);
        Check.due("a WEEK later", y.loan(2, 0), 5);
    }

    private static void loansAheadOfFloods() {
        Check.sentence("II: 3 .. of each LOAN till it ..; then, if it is back, for each FLOOD that is TAKEN");
        FloodLent x = Check.with(Tell.river(4, 0, 2) + Tell.village(50, 5) + Tell.village(50, 0) + Tell.flood(0, 7, 50)
            + Tell.loan(0, 1, 5, 0, 2) + Tell.crop(1, 4, 0, 1, 1));
        x.takes(0, 1);
        loan(x, 0, 5, 5, 5, 0);
        flood(x, 0, 7, 7, 3, 4);
        // The lender pays the river with what it was paid.
        FloodLent y = Check.with(Tell.river(4, 0, 2) + Tell.village(50, 0) + Tell.village(50, 0) + Tell.flood(0, 7, 50)
            + Tell.loan(0, 1, 7, 0, 2));
        y.takes(0, 0);
        loan(y, 0, 7, 7, 7, 0);
        flood(y, 0, 7, 7, 7, 0);
        // But its pond is emptied too late to be paid into.
        FloodLent z = Check.with(Tell.river(4, 0, 2) + Tell.village(10, 10) + Tell.village(50, 0) + Tell.loan(0, 1, 4, 0, 2)
            + Tell.flood(1, 4, 50));
        z.takes(0, 0);
        loan(z, 0, 4, 4, 0, 4);
        flood(z, 0, 4, 4, 4, 0);
    }

    private static void paidToTheRiver() {
        Check.sentence("II: for each FLOOD that is TAKEN the least of what is owed and the taker's water");
        int[][] cases = {{9, 9}, {10, 10}, {11, 10}, {0, 0}, {1, 1}, {29, 10}};
        for (int[] c : cases) {
            FloodLent x = Check.with(Tell.river(4, 0, 2) + Tell.village(50, 20) + Tell.flood(0, 10, 50) + Tell.crop(0, 30 - c[0], 0, 1, 1));
            x.takes(0, 0);
            flood(x, 0, 10, 10, c[1], 10 - c[1]);
            waters(x, 0, 30, c[0], c[0] - c[1], c[0] - c[1]);
            Check.due("first()", x.first(), c[1] < 10 ? 2 : -1);
        }
    }

    private static void backWeek() {
        Check.sentence("II: for each FLOOD that is TAKEN (this WEEK's, too)");
        for (int week = 0; week < 5; week++) {
            FloodLent x = Check.with(Tell.river(5, 10, 2) + Tell.village(50, 20) + Tell.flood(week, 10, 50));
            x.takes(0, 0);
            flood(x, 0, 10, 11, week <= 2 ? 11 : 0, week <= 2 ? 0 : 11);
            for (int w = 0; w < 5; w++) {
                boolean came = w >= week;
                boolean went = w >= 2 && week <= 2;
                Check.due("water(0, " + w + ") by a FLOOD in WEEK " + week, x.water(0, w), 20 + (came ? 10 : 0) - (went ? 11 : 0));
            }
        }
        Check.sentence("II: (What is TAKEN behind back is never PAID.)");
        for (int back = 0; back < 4; back++) {
            FloodLent x = Check.with(Tell.river(4, 0, back) + Tell.village(50, 20) + Tell.flood(back, 3, 50) + Tell.flood(3, 4, 50));
            x.takes(0, 0);
            x.takes(1, 0);
            Check.due("PAID in WEEK " + back, x.flood(0, 2), 3);
            Check.due("PAID of WEEK 3", x.flood(1, 2), back == 3 ? 4 : 0);
            Check.due("SHORT of WEEK 3", x.flood(1, 3), back == 3 ? 0 : 4);
            Check.due("nothing due is not PAID", x.first(), -1);
        }
    }

    private static void floodsPaidInOrder() {
        Check.sentence("II: if it is back, for each FLOOD that is TAKEN, in order");
        FloodLent x = Check.with(Tell.river(4, 0, 2) + Tell.village(50, 0) + Tell.flood(1, 6, 50) + Tell.flood(0, 6, 50) + Tell.flood(2, 6, 50)
            + Tell.crop(0, 5, 0, 1, 1));
        for (int f = 0; f < 3; f++) {
            x.takes(f, 0);
        }
        flood(x, 0, 6, 6, 6, 0);
        flood(x, 1, 6, 6, 6, 0);
        flood(x, 2, 6, 6, 1, 5);
        waters(x, 0, 6, 7, 0, 0);
        // Each by its own taker.
        FloodLent y = Check.with(Tell.river(4, 0, 2) + Tell.village(50, 0) + Tell.village(50, 3) + Tell.flood(1, 6, 50) + Tell.flood(0, 6, 50)
            + Tell.crop(0, 5, 0, 1, 1));
        y.takes(0, 0);
        y.takes(1, 1);
        flood(y, 0, 6, 6, 1, 5);
        flood(y, 1, 6, 6, 6, 0);
        waters(y, 1, 9, 9, 3, 3);
    }

    // ---- 4: CROPS

    private static void cropWater() {
        Check.sentence("II: if its VILLAGE has as much water as it drinks, it DRINKS it and BRINGS; else it is DRY");
        int[][] cases = {{5, 4}, {5, 5}, {5, 6}, {0, 1}, {1, 1}, {99, 98}, {99, 99}, {98, 99}};
        for (int[] c : cases) {
            boolean drinks = c[0] >= c[1];
            FloodLent x = Check.with(Tell.river(4, 0, 0) + Tell.village(99, c[0]) + Tell.crop(0, c[1], 7, 2, 2));
            crop(x, 0, drinks ? 7 : 0, drinks ? 0 : 1, drinks ? -1 : 2);
            waters(x, 0, c[0], c[0], drinks ? c[0] - c[1] : c[0], drinks ? c[0] - c[1] : c[0]);
            Check.due("CROPS DRINK", x.sum(5), drinks ? c[1] : 0);
            Check.due("BROUGHT", x.sum(0), drinks ? 7 : 0);
            Check.due("first()", x.first(), drinks ? -1 : 2);
        }
        // What BRINGS nothing DRINKS all the same.
        FloodLent x = Check.with(Tell.river(4, 0, 0) + Tell.village(99, 9) + Tell.crop(0, 4, 0, 1, 1));
        crop(x, 0, 0, 0, -1);
        waters(x, 0, 9, 5, 5, 5);
    }

    private static void cropWeeks() {
        Check.sentence("II: each CROP whose WEEKS it is one of");
        for (int from = 0; from < 6; from++) {
            for (int to = from; to < 6; to++) {
                FloodLent x = Check.with(Tell.river(6, 0, 0) + Tell.village(99, 99) + Tell.crop(0, 10, 3, from, to));
                crop(x, 0, 3 * (to - from + 1), 0, -1);
                for (int week = 0; week < 6; week++) {
                    int times = Math.max(0, Math.min(week, to) - from + 1);
                    Check.due("water(0, " + week + ") from " + from + " to " + to, x.water(0, week), 99 - 10 * times);
                }
                FloodLent dry = Check.with(Tell.river(6, 0, 0) + Tell.village(99, 9) + Tell.crop(0, 10, 3, from, to));
                crop(dry, 0, 0, to - from + 1, from);
                Check.due("first()", dry.first(), from);
            }
        }
    }

    private static void cropsInOrder() {
        Check.sentence("II: 4 each CROP whose WEEKS it is one of, in order");
        FloodLent x = Check.with(Tell.river(4, 0, 0) + Tell.village(99, 5) + Tell.village(99, 3) + Tell.crop(0, 3, 1, 1, 1)
            + Tell.crop(0, 3, 2, 1, 1) + Tell.crop(1, 3, 4, 1, 1) + Tell.crop(0, 2, 8, 1, 1));
        crop(x, 0, 1, 0, -1);
        crop(x, 1, 0, 1, 1);
        crop(x, 2, 4, 0, -1);
        crop(x, 3, 8, 0, -1);
        waters(x, 0, 5, 0, 0, 0);
        waters(x, 1, 3, 0, 0, 0);
    }

    private static void stepsAheadOfCrops() {
        Check.sentence("II: 1 each FLOOD .. 2 each LOAN .. 3 what is due .. 4 each CROP");
        FloodLent x = Check.with(Tell.river(4, 0, 3) + Tell.village(99, 0) + Tell.village(99, 8) + Tell.flood(0, 4, 50)
            + Tell.crop(0, 4, 1, 0, 0) + Tell.loan(1, 0, 5, 1, 3) + Tell.crop(0, 5, 2, 1, 1) + Tell.crop(1, 3, 4, 1, 1) + Tell.crop(1, 1, 8, 2, 2));
        x.takes(0, 0);
        crop(x, 0, 1, 0, -1);
        crop(x, 1, 2, 0, -1);
        crop(x, 2, 4, 0, -1);
        crop(x, 3, 0, 1, 2);
        // What is due is paid ahead of the CROP.
        FloodLent y = Check.with(Tell.river(4, 0, 1) + Tell.village(99, 0) + Tell.flood(1, 4, 50) + Tell.crop(0, 1, 9, 1, 1));
        y.takes(0, 0);
        crop(y, 0, 0, 1, 1);
        flood(y, 0, 4, 4, 4, 0);
    }

    // ---- 5: the SKY

    private static void sky() {
        Check.sentence("II: 5 the SKY drinks from each pond face times sun by a hundred, cut, or all that is there");
        int[][] cases = {{99, 99, 200, 98}, {10, 9, 50, 0}, {10, 10, 50, 1}, {10, 11, 50, 1}, {10, 19, 50, 1}, {10, 20, 50, 2}, {33, 33, 50, 10},
            {1, 99, 50, 0}, {50, 50, 24, 24}, {50, 50, 25, 25}, {50, 50, 26, 25}, {99, 99, 97, 97}, {99, 99, 98, 98}, {99, 99, 99, 98}, {0, 99, 50, 0},
            {99, 0, 50, 0}, {99, 99, 0, 0}};
        for (int[] c : cases) {
            FloodLent x = Check.with(Tell.river(4, 0, 0) + Tell.village(200, c[2], c[0], 0) + Tell.sun(1, c[1]));
            Check.due("sum(3) by face " + c[0] + ", sun " + c[1] + ", water " + c[2], x.sum(3), c[3]);
            waters(x, 0, c[2], c[2] - c[3], c[2] - c[3], c[2] - c[3]);
            Check.due("sum(4)", x.sum(4), 0);
        }
        FloodLent two = Check.with(Tell.river(4, 0, 0) + Tell.village(99, 20, 20, 0) + Tell.village(99, 20, 40, 0) + Tell.sun(0, 50) + Tell.sun(3, 25));
        waters(two, 0, 10, 10, 10, 5);
        waters(two, 1, 0, 0, 0, 0);
        Check.due("sum(3) of each pond and WEEK", two.sum(3), 35);
    }

    private static void skyBehindCrops() {
        Check.sentence("II: 4 each CROP .. 5 the SKY .. 6 each loses what seeps");
        FloodLent x = Check.with(Tell.river(4, 0, 0) + Tell.village(50, 10, 10, 3) + Tell.sun(0, 50) + Tell.crop(0, 4, 1, 0, 0));
        // 10, less 4, less 5: 1 is there to seep.
        crop(x, 0, 1, 0, -1);
        Check.due("the SKY", x.sum(3), 5);
        Check.due("the SEA", x.sum(4), 1);
        waters(x, 0, 0, 0, 0, 0);
        // A CROP drinks what the SKY would have, if there is just as much; 1 more and the SKY has it.
        for (int water = 4; water <= 6; water++) {
            FloodLent z = Check.with(Tell.river(4, 0, 0) + Tell.village(50, water, 10, 3) + Tell.sun(0, 50) + Tell.crop(0, 5, 1, 0, 0));
            crop(z, 0, water < 5 ? 0 : 1, water < 5 ? 1 : 0, water < 5 ? 0 : -1);
            Check.due("the SKY with " + water, z.sum(3), water < 5 ? 4 : water - 5);
            Check.due("the SEA with " + water, z.sum(4), 0);
        }
        // What the SKY takes makes ROOM for what seeps.
        FloodLent y = Check.with(Tell.river(4, 0, 0) + Tell.village(50, 6, 0, 6) + Tell.village(10, 10, 10, 0) + Tell.sun(0, 40));
        waters(y, 1, 10, 10, 10, 10);
        Check.due("the SKY", y.sum(3), 4);
        Check.due("the SEA", y.sum(4), 2);
    }

    // ---- 6: what seeps

    private static void seeps() {
        Check.sentence("II: 6 each loses what seeps, or all that is there: .. to the SEA, as does the last one's");
        int[][] cases = {{5, 4, 1}, {5, 5, 0}, {5, 6, 0}, {0, 9, 0}, {5, 0, 5}, {99, 99, 0}, {100, 99, 1}};
        for (int[] c : cases) {
            FloodLent x = Check.with(Tell.river(4, 0, 0) + Tell.village(100, c[0], 0, c[1]));
            waters(x, 0, c[2], Math.max(0, c[2] - c[1]));
            Check.due("sum(4)", x.sum(4), Math.min(c[0], 4 * c[1]));
        }
    }

    private static void seepsToNext() {
        Check.sentence("II: to the next VILLAGE, as far as that has ROOM; else to the SEA");
        for (int room = 0; room <= 8; room++) {
            FloodLent x = Check.with(Tell.river(4, 0, 0) + Tell.village(50, 6, 0, 6) + Tell.village(30, 30 - room) + Tell.village(50, 0));
            waters(x, 0, 0, 0, 0, 0);
            waters(x, 1, 30 - room + Math.min(6, room), 30 - room + Math.min(6, room));
            waters(x, 2, 0, 0, 0, 0);
            Check.due("sum(4) with ROOM " + room, x.sum(4), 6 - Math.min(6, room));
        }
    }

    private static void seepsFromTheLast() {
        Check.sentence("II: 6 from the last VILLAGE back");
        // Each is full: the last one's go to the SEA and make ROOM for those ahead; nothing seeps twice a WEEK.
        FloodLent x = Check.with(Tell.river(4, 0, 0) + Tell.village(30, 30, 0, 6) + Tell.village(20, 20, 0, 5) + Tell.village(10, 10, 0, 4));
        waters(x, 0, 24, 18, 12, 6);
        waters(x, 1, 20, 20, 20, 20);
        waters(x, 2, 10, 10, 10, 10);
        // A WEEK: 4 of the last, 5 less the 4 that it has ROOM for, 6 less 5.
        Check.due("sum(4)", x.sum(4), 24);
        FloodLent y = Check.with(Tell.river(4, 0, 0) + Tell.village(30, 9, 0, 9) + Tell.village(20, 0, 0, 9) + Tell.village(10, 0, 0, 9));
        waters(y, 0, 0, 0, 0, 0);
        waters(y, 1, 9, 0, 0, 0);
        waters(y, 2, 0, 9, 0, 0);
        Check.due("sum(4)", y.sum(4), 9);
    }

    // ---- SHORT, promises 7 to 13

    private static void shortAtTheEnd() {
        Check.sentence("II: SHORT: what is owed less what is PAID, at the end of the YEAR");
        FloodLent x = Check.with(Tell.river(4, 50, 2) + Tell.village(50, 0) + Tell.village(50, 9) + Tell.loan(1, 0, 8, 0, 1) + Tell.flood(3, 10, 50)
            + Tell.flood(2, 4, 50));
        x.takes(0, 0);
        x.takes(1, 1);
        loan(x, 0, 8, 12, 8, 4);
        flood(x, 0, 10, 15, 0, 15);
        flood(x, 1, 4, 6, 6, 0);
        // What comes later does not pay what was due.
        waters(x, 0, 8, 0, 0, 10);
    }

    private static void takes() {
        Check.sentence("7: A VILLAGE (NONE: nobody) takes a FLOOD from now on: who did (NONE)");
        FloodLent x = Check.with(Tell.river(4, 0, 3) + Tell.village(50, 0).repeat(6) + Tell.flood(0, 1, 1).repeat(3));
        for (int f = 0; f < 3; f++) {
            int who = -1;
            for (int v : new int[] {0, 5, 5, 3, -1, -1, 1}) {
                Check.due("takes(" + f + ", " + v + ")", x.takes(f, v), who);
                who = v;
                Check.due("TAKEN", x.flood(f, 0), v == -1 ? 0 : 1);
            }
        }
        for (int f = 0; f < 3; f++) {
            Check.due("each FLOOD its own", x.takes(f, 2), 1);
        }
    }

    private static void takesRefused() {
        Check.sentence("7: -2: there are none such");
        FloodLent x = Check.with(Tell.river(4, 0, 3) + Tell.village(50, 0).repeat(2) + Tell.flood(0, 1, 1).repeat(2));
        x.takes(0, 1);
        x.takes(1, 0);
        for (int f : new int[] {-1, 2, 3, Integer.MIN_VALUE, Integer.MAX_VALUE}) {
            for (int v = -1; v < 2; v++) {
                Check.due("takes(" + f + ", " + v + ")", x.takes(f, v), -2);
            }
        }
        for (int v : new int[] {-2, 2, 6, Integer.MIN_VALUE, Integer.MAX_VALUE}) {
            Check.due("takes(0, " + v + ")", x.takes(0, v), -2);
            Check.due("takes(1, " + v + ")", x.takes(1, v), -2);
        }
        Check.due("who took FLOOD 0, nothing happened", x.takes(0, 1), 1);
        Check.due("who took FLOOD 1, nothing happened", x.takes(1, 0), 0);
        FloodLent river = Check.with(Tell.river(4, 0, 3) + Tell.flood(0, 1, 1));
        Check.due("takes(0, 0) without VILLAGES", river.takes(0, 0), -2);
        Check.due("takes(0, -1) without VILLAGES", river.takes(0, -1), -1);
    }

    private static void water() {
        Check.sentence("8: Water of a VILLAGE behind a WEEK of the YEAR by TAKERS (all come)");
        FloodLent x = Check.with(Tell.river(30, 0, 29) + Tell.village(50, 3).repeat(6) + Tell.flood(29, 1, 0) + Tell.flood(0, 2, 0));
        x.takes(0, 5);
        x.takes(1, 0);
        Check.due("water(0, 0), odds of 0", x.water(0, 0), 5);
        Check.due("water(5, 28)", x.water(5, 28), 3);
        Check.due("water(5, 29), TAKEN and PAID", x.water(5, 29), 3);
        Check.due("water(0, 28)", x.water(0, 28), 5);
        Check.due("water(0, 29)", x.water(0, 29), 3);
        Check.sentence("8: -2: there are none such");
        for (int week : new int[] {-1, 30, 31, Integer.MIN_VALUE, Integer.MAX_VALUE}) {
            Check.due("water(0, " + week + ")", x.water(0, week), -2);
        }
        for (int v : new int[] {-1, 6, Integer.MIN_VALUE, Integer.MAX_VALUE}) {
            Check.due("water(" + v + ", 0)", x.water(v, 0), -2);
        }
        FloodLent y = Check.with(Tell.river(4, 0, 3) + Tell.village(50, 3));
        Check.due("water(0, 3)", y.water(0, 3), 3);
        Check.due("water(0, 4)", y.water(0, 4), -2);
        Check.due("water(1, 3)", y.water(1, 3), -2);
        Check.due("water(0, 0) without a PLAIN", new FloodLent().water(0, 0), -2);
    }

    private static FloodLent rich() {
        FloodLent x = Check.with(Tell.river(4, 10, 2) + Tell.village(50, 20, 10, 1) + Tell.village(40, 10, 0, 2) + Tell.sun(1, 50)
            + Tell.crop(0, 3, 5, 0, 1) + Tell.crop(1, 30, 7, 1, 3) + Tell.flood(0, 9, 50) + Tell.flood(3, 4, 50)
            + Tell.loan(0, 1, 10, 0, 1) + Tell.loan(1, 0, 1, 0, 3));
        x.takes(0, 0);
        x.takes(1, 1);
        return x;
    }

    // 29; lent 10 and 1: 20 and 19; drunk 3: 17, 19; seeped: 16, 18 (1 comes, 2 go).
    // 11 paid: 27, 7; drunk 3: 24, dry; the SKY 5: 19; seeped: 18, 6.
    // 10 paid of 10 to the river (9 and 1): 8; dry; 7, 5. Then 4 come: 9; 2 paid of 1 and 1: 5, 11; dry; 4, 10.
    private static void flood() {
        Check.sentence("9: Of a FLOOD, what 0: TAKEN, 1: what is owed for it, 2: PAID, 3: SHORT");
        FloodLent x = rich();
        flood(x, 0, 9, 10, 10, 0);
        flood(x, 1, 4, 5, 0, 5);
        Check.sentence("9: -2: there are none such");
        for (int none : NO_NUMBERS) {
            Check.due("flood(" + none + ", 0)", x.flood(none, 0), -2);
            Check.due("flood(0, " + none + ")", x.flood(0, none), -2);
        }
        Check.due("flood(2, 0)", x.flood(2, 0), -2);
        Check.due("flood(0, 4)", x.flood(0, 4), -2);
        Check.due("flood(0, 0) without a PLAIN", new FloodLent().flood(0, 0), -2);
    }

    private static void loan() {
        Check.sentence("10: Of a LOAN, what 0: LENT, 1: what is owed for it, 2: PAID, 3: SHORT");
        FloodLent x = rich();
        loan(x, 0, 10, 11, 11, 0);
        loan(x, 1, 1, 2, 2, 0);
        x.more(100);
        loan(x, 0, 10, 20, 18, 2);
        Check.sentence("10: -2: there are none such");
        for (int none : NO_NUMBERS) {
            Check.due("loan(" + none + ", 0)", x.loan(none, 0), -2);
            Check.due("loan(0, " + none + ")", x.loan(0, none), -2);
        }
        Check.due("loan(2, 0)", x.loan(2, 0), -2);
        Check.due("loan(0, 4)", x.loan(0, 4), -2);
        Check.due("loan(0, 0) without a PLAIN", new FloodLent().loan(0, 0), -2);
    }

    private static void crop() {
        Check.sentence("11: Of a CROP, what 0: what it BRINGS in all, 1: in how many WEEKS it is DRY, 2: the first of these (NONE)");
        FloodLent x = rich();
        crop(x, 0, 10, 0, -1);
        crop(x, 1, 0, 3, 1);
        // DRY in some WEEKS alone, also in WEEK 0.
        FloodLent y = Check.with(Tell.river(5, 0, 0) + Tell.village(50, 0) + Tell.flood(1, 7, 50) + Tell.crop(0, 3, 4, 0, 4));
        y.takes(0, 0);
        crop(y, 0, 8, 3, 0);
        Check.sentence("11: -2: there are none such");
        for (int none : NO_NUMBERS) {
            Check.due("crop(" + none + ", 0)", x.crop(none, 0), -2);
            Check.due("crop(0, " + none + ")", x.crop(0, none), -2);
        }
        Check.due("crop(2, 0)", x.crop(2, 0), -2);
        Check.due("crop(0, 3)", x.crop(0, 3), -2);
        Check.due("crop(0, 0) without a PLAIN", new FloodLent().crop(0, 0), -2);
    }

    private static void sum() {
        Check.sentence("12: In all, what 0: BROUGHT, 1: SHORT of FLOODS, 2: SHORT of LOANS, 3: what the SKY drinks, 4: the SEA gets, "
            + "5: CROPS DRINK, 6: TAKEN, 7: PAID to the river, 8: water at the end");
        FloodLent x = rich();
        waters(x, 0, 16, 18, 7, 4);
        waters(x, 1, 18, 6, 5, 10);
        int[] due = {10, 5, 0, 5, 8, 6, 13, 10, 14};
        for (int what = 0; what < due.length; what++) {
            Check.due("sum(" + what + ")", x.sum(what), due[what]);
        }
        // What there was and came is what went and is there.
        Check.due("all the water", x.sum(3) + x.sum(4) + x.sum(5) + x.sum(7) + x.sum(8), 30 + x.sum(6));
        x.more(100);
        Check.due("SHORT of LOANS", x.sum(2), 2);
        Check.sentence("12: -2: there is no such what, no PLAIN");
        for (int what : new int[] {-1, 9, Integer.MIN_VALUE, Integer.MAX_VALUE}) {
            Check.due("sum(" + what + ")", x.sum(what), -2);
        }
        FloodLent river = Check.with(Tell.river(4, 0, 0));
        FloodLent none = new FloodLent();
        for (int what = 0; what < 9; what++) {
            Check.due("sum(" + what + ") of a river alone", river.sum(what), 0);
            Check.due("sum(" + what + ") without a PLAIN", none.sum(what), -2);
        }
    }

    private static void first() {
        Check.sentence("13: The first WEEK in which a CROP is DRY, or something due is not all PAID; NONE: none");
        String two = Tell.village(50, 9) + Tell.village(50, 0);
        String crop = Tell.crop(0, 9, 1, 2, 2);
        String loan = Tell.loan(0, 1, 3, 0, 1);
        String flood = Tell.flood(0, 5, 50);
        Check.due("first(), all is PAID and drinks", Check.with(Tell.river(4, 0, 3) + two + crop + loan).first(), -1);
        Check.due("first(), a CROP", Check.with(Tell.river(4, 0, 3) + two + crop.replace("drinks 9", "drinks 10") + loan).first(), 2);
        Check.due("first(), a LOAN", Check.with(Tell.river(4, 1, 3) + two + crop + loan).first(), 1);
        Check.due("first(), a LOAN ahead of a CROP", Check.with(Tell.river(4, 1, 3) + two + crop.replace("drinks 9", "drinks 10") + loan).first(), 1);
        Check.due("first(), a CROP ahead of a LOAN", Check.with(Tell.river(4, 1, 3) + two + Tell.crop(1, 9, 1, 0, 3) + loan).first(), 0);
        for (int back = 0; back < 4; back++) {
            FloodLent x = Check.with(Tell.river(4, 20, back) + Tell.village(50, 1) + flood);
            x.takes(0, 0);
            Check.due("first(), a FLOOD that is all PAID", x.first(), -1);
            x.more(21);
            Check.due("first(), a FLOOD in WEEK " + back, x.first(), back);
            x.takes(0, -1);
            Check.due("first(), a FLOOD that nobody takes", x.first(), -1);
        }
        Check.due("first() of the last WEEK", Check.with(Tell.river(30, 0, 3) + Tell.village(0, 0) + Tell.crop(0, 1, 1, 29, 29)).first(), 29);
        Check.sentence("13: -2: there is no PLAIN");
        Check.due("first()", new FloodLent().first(), -2);
        Check.due("first() of a river alone", Check.with(Tell.river(4, 0, 0)).first(), -1);
    }
}
