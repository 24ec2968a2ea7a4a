/** Promises 14 to 23 with terms III and IV, sentence by sentence: each at the bound that it names and on both sides of it. */
public final class TakersBoundsTest {
    private static final int[] NO_NUMBERS = {-1, Integer.MIN_VALUE, Integer.MAX_VALUE};

    public static void main(String[] args) {
        bestNothingShort();
        bestMost();
        bestFirst();
        bestNone();
        taker();
        safe();
        hopeMean();
        hopeLowest();
        hopeWrong();
        wiseMost();
        wiseFirst();
        wise();
        wisest();
        fromNowOn();
        agree();
        agreeWrong();
        agreeNumbers();
        agreeThrees();
        agreeNothing();
        who();
        whoWrong();
        sure();
        sureWrong();
        needed();
        neededWrong();
        Check.close("TakersBoundsTest");
    }

    /**
     * The second VILLAGE's CROP needs a FLOOD in WEEK 0; 11 are due in WEEK 2, and as much as the first one
     * has (up to 10) has come down by then beside the 4 that the CROP left.
     */
    private static String wet(int first) {
        return Tell.river(4, 10, 2) + Tell.village(40, first, 0, 5) + Tell.village(40, 0) + Tell.crop(1, 6, 9, 0, 0);
    }

    private static final String TEN = Tell.flood(0, 10, 50);

    // ---- BEST

    private static void bestNothingShort() {
        Check.sentence("III: BEST: of all TAKERS by which nothing is SHORT");
        int[] best = {0, 9, 9};
        int[] taker = {-1, 1, 1};
        for (int more = -1; more <= 1; more++) {
            FloodLent x = Check.with(wet(7 + more) + TEN);
            Check.due("best() with " + more + " more than is due", x.best(), best[more + 1]);
            Check.due("taker(0) with " + more + " more than is due", x.taker(0), taker[more + 1]);
        }
        // Of LOANS, too: the debtor of 1 lacks what is more.
        String loan = Tell.river(4, 20, 2) + Tell.village(40, 5) + Tell.village(40, 0) + Tell.loan(0, 1, 5, 0, 1);
        Check.due("best() by a SHORT LOAN", Check.with(loan).best(), -1);
        Check.due("best() by a LOAN all PAID", Check.with(loan.replace("more 20", "more 0")).best(), 0);
        Check.due("best() by one in place of the other", Check.with(loan + Tell.flood(3, 1, 50)).best(), -1);
    }

    private static void bestMost() {
        Check.sentence("III: those by which all CROPS together BRING most");
        // FLOODS of 6: one waters the CROP of 9, one two CROPS of 5 and the third.
        String text = Tell.river(4, 0, 2) + Tell.village(40, 20, 0, 10) + Tell.village(40, 0, 0, 10) + Tell.village(40, 0)
            + Tell.crop(1, 6, 9, 0, 0) + Tell.crop(2, 3, 5, 0, 0) + Tell.crop(2, 3, 3, 0, 0);
        FloodLent x = Check.with(text + Tell.flood(0, 6, 50));
        Check.due("best(), one CROP or two", x.best(), 9);
        Check.due("taker(0)", x.taker(0), 1);
        FloodLent y = Check.with(text.replace("brings 3 ", "brings 5 ") + Tell.flood(0, 6, 50));
        Check.due("best(), two CROPS", y.best(), 10);
        Check.due("taker(0)", y.taker(0), 2);
        FloodLent alike = Check.with(text.replace("brings 3 ", "brings 4 ") + Tell.flood(0, 6, 50));
        Check.due("best(), alike", alike.best(), 9);
        Check.due("taker(0), the first", alike.taker(0), 1);
        FloodLent both = Check.with(text + Tell.flood(0, 6, 50) + Tell.flood(0, 6, 50));
        Check.due("best() by two FLOODS", both.best(), 17);
        Check.due("taker(0), the lesser first", both.taker(0), 1);
        Check.due("taker(1)", both.taker(1), 2);
    }

    private static void bestFirst() {
        Check.sentence("III: the first: nobody ahead of VILLAGES, FLOOD 0 first");
        FloodLent x = Check.with(Tell.river(4, 0, 3) + Tell.village(9, 0).repeat(3) + TEN.repeat(3));
        for (int f = 0; f < 3; f++) {
            Check.due("taker(" + f + "), all alike: nobody", x.taker(f), -1);
        }
        // One of two or three FLOODS is needed: it is the last one, as nobody takes the first.
        FloodLent two = Check.with(wet(20) + TEN + TEN);
        Check.due("taker(0) of two", two.taker(0), -1);
        Check.due("taker(1) of two", two.taker(1), 1);
        FloodLent three = Check.with(wet(20) + TEN + TEN + TEN);
        Check.due("taker(0) of three", three.taker(0), -1);
        Check.due("taker(1) of three", three.taker(1), -1);
        Check.due("taker(2) of three", three.taker(2), 1);
        // Both FLOODS of 3 are needed: whoever could take them, the lesser VILLAGE does.
        FloodLent all = Check.with(wet(20) + Tell.flood(0, 3, 50) + Tell.flood(0, 3, 50) + Tell.flood(1, 3, 50));
        Check.due("best()", all.best(), 9);
        Check.due("taker(0)", all.taker(0), 1);
        Check.due("taker(1)", all.taker(1), 1);
        Check.due("taker(2)", all.taker(2), -1);
    }

    private static void bestNone() {
        Check.sentence("14: NONE: by all TAKERS something is SHORT; -2: there is no PLAIN");
        String loan = Tell.river(4, 20, 3) + Tell.village(40, 5) + Tell.village(40, 0) + Tell.loan(0, 1, 5, 0, 1);
        FloodLent late = Check.with(loan + Tell.flood(2, 10, 50));
        Check.due("best(), a FLOOD too late", late.best(), -1);
        Check.due("taker(0)", late.taker(0), -1);
        Check.due("safe()", late.safe(), 0);
        Check.due("best() with 1 more to pay", Check.with(loan.replace("pond 40 water 0", "pond 40 water 1")).best(), 0);
        // 5 are lent, the SKY drinks 2 and 2 seep down: only with a FLOOD of 1 can the second pay 6.
        FloodLent x = Check.with(Tell.river(4, 20, 3) + Tell.village(40, 20, 0, 2) + Tell.village(40, 0, 20, 0) + Tell.sun(0, 10)
            + Tell.loan(0, 1, 5, 0, 1) + Tell.flood(0, 1, 50));
        Check.due("best() by the one that is not SHORT", x.best(), 0);
        Check.due("taker(0)", x.taker(0), 1);
        Check.due("safe()", x.safe(), 1);
        Check.due("SHORT by nobody", x.sum(2), 1);
        Check.due("best() without a PLAIN", new FloodLent().best(), -2);
        Check.due("best() of a river alone", Check.with(Tell.river(4, 0, 0)).best(), 0);
    }

    private static void taker() {
        Check.sentence("15: Who takes a FLOOD in the first such; NONE: nobody (or there are none such TAKERS)");
        // The fifth of six takes the last of three.
        String six = Tell.river(4, 0, 2) + Tell.village(40, 0).repeat(4) + Tell.village(40, 20, 0, 6) + Tell.village(40, 0)
            + Tell.crop(5, 6, 9, 0, 0);
        FloodLent x = Check.with(six + Tell.flood(1, 6, 50) + Tell.flood(2, 6, 50) + Tell.flood(0, 6, 50));
        Check.due("best()", x.best(), 9);
        int[] due = {-1, -1, 5};
        for (int f = 0; f < 3; f++) {
            Check.due("taker(" + f + ")", x.taker(f), due[f]);
            Check.due("takes(" + f + ", 4), nobody takes it now", x.takes(f, 4), -1);
        }
        Check.due("taker(2), whoever takes it now", x.taker(2), 5);
        Check.sentence("15: -2: there is no such FLOOD");
        Check.due("taker(3)", x.taker(3), -2);
        for (int none : NO_NUMBERS) {
            Check.due("taker(" + none + ")", x.taker(none), -2);
        }
        Check.due("taker(1) of one", Check.with(six + TEN).taker(1), -2);
        Check.due("taker(0) of none", Check.with(six).taker(0), -2);
        Check.due("taker(0) without a PLAIN", new FloodLent().taker(0), -2);
    }

    private static void safe() {
        Check.sentence("16: How many TAKERS there are by which nothing is SHORT");
        // With nothing more all can give back what they take: all are safe, up to seven by seven by seven.
        for (int villages = 0; villages <= 6; villages++) {
            String plain = Tell.river(4, 0, 3) + Tell.village(40, 0).repeat(villages);
            int n = villages + 1;
            Check.due("safe() without FLOODS", Check.with(plain).safe(), 1);
            Check.due("safe() by one", Check.with(plain + TEN).safe(), n);
            Check.due("safe() by two", Check.with(plain + TEN + TEN).safe(), n * n);
            Check.due("safe() by three", Check.with(plain + TEN + TEN + TEN).safe(), n * n * n);
            // One more is owed than there is: nobody can take any.
            String more = plain.replace("more 0", "more 1");
            Check.due("safe() with more", Check.with(more + TEN + TEN + TEN).safe(), 1);
            // Behind back one is always SHORT.
            Check.due("safe() by one too late", Check.with(plain.replace("back 3", "back 2") + TEN + Tell.flood(3, 1, 1)).safe(), n);
        }
        Check.sentence("16: -2: there is no PLAIN");
        Check.due("safe()", new FloodLent().safe(), -2);
    }

    // ---- HOPE

    private static void hope(String call, FloodLent x, long above, long below) {
        Check.due("hope(0) " + call, x.hope(0), above);
        Check.due("hope(1) " + call, x.hope(1), below);
    }

    /** A pond of a ROOM; FLOODS of 1 that come too late to be given back, each taken. */
    private static FloodLent late(int room, int... odds) {
        StringBuilder s = new StringBuilder(Tell.river(4, 0, 0) + Tell.village(room, 0));
        for (int odd : odds) {
            s.append(Tell.flood(1, 1, odd));
        }
        FloodLent x = Check.with(s.toString());
        for (int f = 0; f < odds.length; f++) {
            x.takes(f, 0);
        }
        return x;
    }

    private static void hopeMean() {
        Check.sentence("III: HOPE: the mean over all ways in which FLOODS come or do not (each by its odds, apart)");
        hope("by odds of 0", late(9, 0), 0, 1);
        hope("by odds of 1", late(9, 1), -1, 100);
        hope("by odds of 99", late(9, 99), -99, 100);
        hope("by odds of 100", late(9, 100), -1, 1);
        hope("by odds of 100, 0, 100", late(9, 100, 0, 100), -2, 1);
        hope("by odds of 33, 50, 25", late(9, 33, 50, 25), -27, 25);
        // With ROOM for 1 it is 1 SHORT unless none comes: 1 less .99 . .98 . .97; 1 less .9 . .8 . .7.
        hope("by odds of 1, 2, 3", late(1, 1, 2, 3), -29453, 500000);
        hope("by odds of 10, 20, 30", late(1, 10, 20, 30), -62, 125);
        hope("by odds of 1, 1", late(1, 1, 1), -199, 10000);
        // With ROOM for 2 that one of three has none: 3 . .01 less .01 . .01 . .01.
        hope("by odds of 1, 1, 1", late(2, 1, 1, 1), -29999, 1000000);
        Check.sentence("III: of what is BROUGHT less all that is SHORT");
        String crop = Tell.river(4, 0, 0) + Tell.village(20, 5) + Tell.village(20, 0) + Tell.crop(0, 5, 3, 0, 0);
        hope("of what is BROUGHT", Check.with(crop), 3, 1);
        hope("of a LOAN that is SHORT", Check.with(crop + Tell.loan(0, 1, 1, 1, 2)), 3, 1);
        hope("of a CROP that is DRY then", Check.with(crop + Tell.loan(0, 1, 1, 0, 2)), 0, 1);
        FloodLent x = Check.with(crop.replace("more 0", "more 100") + Tell.loan(0, 1, 1, 0, 2) + Tell.flood(3, 4, 25));
        hope("of one SHORT", x, -1, 1);
        x.takes(0, 1);
        hope("of one SHORT and at times 8", x, -3, 1);
        // A FLOOD that comes brings less than one that nobody takes, or more.
        FloodLent y = Check.with(wet(20) + Tell.flood(0, 10, 30));
        hope("by nobody", y, 0, 1);
        y.takes(0, 1);
        hope("by the second", y, 27, 10);
    }

    private static void hopeLowest() {
        Check.sentence("III: a fraction in lowest terms, its bottom above 0");
        int[][] cases = {{2, 1, 50}, {4, 1, 25}, {5, 1, 20}, {10, 1, 10}, {20, 1, 5}, {25, 1, 4}, {40, 2, 5}, {50, 1, 2}, {64, 16, 25}, {75, 3, 4},
            {98, 49, 50}, {7, 7, 100}, {100, 1, 1}, {0, 0, 1}};
        for (int[] c : cases) {
            hope("by odds of " + c[0], late(9, c[0]), -c[1], c[2]);
            // And above 0: a CROP that only a FLOOD waters, and that is given back.
            FloodLent x = Check.with(wet(20).replace("brings 9", "brings 1") + Tell.flood(0, 10, c[0]));
            x.takes(0, 1);
            hope("of 1 by odds of " + c[0], x, c[1], c[2]);
        }
        hope("by odds of 50, 50, 50", late(9, 50, 50, 50), -3, 2);
        hope("by odds of 25, 25, 50", late(9, 25, 25, 50), -1, 1);
        hope("of nothing", Check.with(Tell.river(4, 0, 0)), 0, 1);
        hope("of FLOODS that nobody takes", Check.with(Tell.river(4, 0, 0) + Tell.flood(0, 1, 33).repeat(3)), 0, 1);
    }

    private static void hopeWrong() {
        Check.sentence("17: HOPE by TAKERS as they are, above (what 0), below (1)");
        FloodLent x = Check.with(Tell.river(4, 0, 0) + Tell.village(20, 0) + Tell.village(1, 0) + Tell.flood(1, 4, 50));
        int[] above = {0, -2, -1};
        int[] below = {1, 1, 2};
        for (int v : new int[] {-1, 0, 1, 0, -1}) {
            x.takes(0, v);
            hope("by " + v, x, above[v + 1], below[v + 1]);
        }
        Check.sentence("17: -2: there is no such what, no PLAIN");
        for (int what : new int[] {-1, 2, Integer.MIN_VALUE, Integer.MAX_VALUE}) {
            Check.due("hope(" + what + ")", x.hope(what), -2);
        }
        Check.due("hope(0) without a PLAIN", new FloodLent().hope(0), -2);
        Check.due("hope(1) without a PLAIN", new FloodLent().hope(1), -2);
    }

    // ---- WISE

    private static void wiseMost() {
        Check.sentence("III: WISE: those by which HOPE is most");
        // By the second 9 are BROUGHT, if it comes; and what is SHORT with more of it.
        FloodLent x = Check.with(wet(20) + TEN);
        Check.due("wise(0)", x.wise(0), 1);
        Check.due("taker(0)", x.taker(0), 1);
        // With 9 SHORT it is as well that nobody takes it, with 8 it is better that the second does.
        for (int lacks = 8; lacks <= 10; lacks++) {
            // It has 4 in WEEK 2; 12, 13 or 14 are owed.
            FloodLent y = Check.with(wet(0).replace("more 10", "more " + 10 * (lacks - 6)) + TEN);
            y.takes(0, 1);
            Check.due("SHORT", y.flood(0, 3), lacks);
            Check.due("wise(0) with " + lacks + " SHORT", y.wise(0), lacks < 9 ? 1 : -1);
            Check.due("taker(0), nothing SHORT", y.taker(0), -1);
        }
    }

    private static void wiseFirst() {
        Check.sentence("III: WISE .. (the first likewise)");
        FloodLent x = Check.with(Tell.river(4, 0, 3) + Tell.village(9, 0).repeat(3) + TEN.repeat(3));
        for (int f = 0; f < 3; f++) {
            Check.due("wise(" + f + "), all alike: nobody", x.wise(f), -1);
        }
        FloodLent three = Check.with(wet(20) + TEN + TEN + TEN);
        // Each may come or not: taking all three is wiser than taking one.
        Check.due("wise(0) of three", three.wise(0), 1);
        Check.due("wise(1) of three", three.wise(1), 1);
        Check.due("wise(2) of three", three.wise(2), 1);
        FloodLent sure = Check.with((wet(20) + TEN + TEN + TEN).replace("odds 50", "odds 100"));
        Check.due("wise(0) of three that come", sure.wise(0), -1);
        Check.due("wise(1) of three that come", sure.wise(1), -1);
        Check.due("wise(2) of three that come", sure.wise(2), 1);
        FloodLent never = Check.with(wet(20) + TEN.replace("odds 50", "odds 0"));
        Check.due("wise(0) of one that never comes", never.wise(0), -1);
        FloodLent hardly = Check.with(wet(20) + TEN.replace("odds 50", "odds 1"));
        Check.due("wise(0) of one that hardly comes", hardly.wise(0), 1);
        // Nobody, if HOPE is as much by him as by others: above 0, and below it.
        FloodLent above = Check.with(Tell.river(4, 0, 3) + Tell.village(9, 9) + Tell.crop(0, 9, 9, 0, 0) + TEN + TEN);
        FloodLent below = Check.with(Tell.river(4, 20, 3) + Tell.village(9, 5) + Tell.village(9, 0, 0, 9) + Tell.loan(0, 1, 5, 0, 1)
            + Tell.flood(3, 0, 50));
        for (FloodLent y : new FloodLent[] {above, below}) {
            Check.due("wise(0), as much by nobody", y.wise(0), -1);
        }
        Check.due("wise(1), as much by nobody", above.wise(1), -1);
        Check.due("wisest(0) above 0", above.wisest(0), 9);
        Check.due("wisest(0) below 0", below.wisest(0), -6);
        // The very next ones, too: the first VILLAGE takes the last FLOOD.
        String next = Tell.river(4, 0, 3) + Tell.village(40, 0) + Tell.village(40, 0) + Tell.flood(3, 0, 50).repeat(2) + Tell.flood(0, 6, 50);
        FloodLent helped = Check.with(next + Tell.crop(0, 6, 7, 0, 0));
        int[] last = {-1, -1, 0};
        for (int f = 0; f < 3; f++) {
            Check.due("wise(" + f + ") of the last", helped.wise(f), last[f]);
        }
        // The first of two VILLAGES that are alike.
        FloodLent alike = Check.with(Tell.river(4, 0, 2) + Tell.village(40, 20, 0, 10) + Tell.village(40, 0, 0, 6) + Tell.village(40, 0)
            + Tell.crop(1, 6, 9, 0, 0) + Tell.crop(2, 6, 9, 0, 0) + Tell.flood(0, 6, 50));
        Check.due("wise(0), the lesser", alike.wise(0), 1);
    }

    private static void wise() {
        Check.sentence("18: Who takes a FLOOD by the first WISE ones; NONE: nobody");
        String six = Tell.river(4, 0, 2) + Tell.village(40, 0).repeat(4) + Tell.village(40, 20, 0, 6) + Tell.village(40, 0)
            + Tell.crop(5, 6, 9, 0, 0);
        FloodLent x = Check.with(six + Tell.flood(1, 6, 50) + Tell.flood(2, 6, 50) + Tell.flood(0, 6, 50));
        int[] due = {-1, -1, 5};
        for (int f = 0; f < 3; f++) {
            Check.due("wise(" + f + ")", x.wise(f), due[f]);
            Check.due("takes(" + f + ", 4), nobody takes it now", x.takes(f, 4), -1);
            Check.due("wise(" + f + "), whoever takes it now", x.wise(f), due[f]);
        }
        Check.sentence("18: -2: there is no such FLOOD");
        Check.due("wise(3)", x.wise(3), -2);
        for (int none : NO_NUMBERS) {
            Check.due("wise(" + none + ")", x.wise(none), -2);
        }
        Check.due("wise(1) of one", Check.with(six + TEN).wise(1), -2);
        Check.due("wise(0) of none", Check.with(six).wise(0), -2);
        Check.due("wise(0) without a PLAIN", new FloodLent().wise(0), -2);
    }

    private static void wisest() {
        Check.sentence("19: HOPE by WISE ones, as hope()");
        FloodLent x = Check.with(wet(20) + Tell.flood(0, 10, 30));
        for (int v = -1; v < 2; v++) {
            x.takes(0, v);
            Check.due("wisest(0)", x.wisest(0), 27);
            Check.due("wisest(1)", x.wisest(1), 10);
        }
        FloodLent loan = Check.with(Tell.river(4, 20, 2) + Tell.village(40, 5) + Tell.village(40, 0) + Tell.loan(0, 1, 5, 0, 1));
        Check.due("wisest(0) below 0", loan.wisest(0), -1);
        Check.due("wisest(1) above it", loan.wisest(1), 1);
        FloodLent none = Check.with(Tell.river(4, 0, 0) + Tell.flood(0, 1, 33).repeat(3));
        Check.due("wisest(0) of nothing", none.wisest(0), 0);
        Check.due("wisest(1) of nothing", none.wisest(1), 1);
        // A CROP of 1 that any one of three FLOODS waters, each by odds of 1: 1 less .99 . .99 . .99.
        FloodLent three = Check.with(wet(20).replace("more 10", "more 0").replace("brings 9", "brings 1") + Tell.flood(0, 10, 1).repeat(3));
        Check.due("wisest(0) of three", three.wisest(0), 29701);
        Check.due("wisest(1) of three", three.wisest(1), 1000000);
        Check.sentence("19: -2 likewise");
        for (int what : new int[] {-1, 2, Integer.MIN_VALUE, Integer.MAX_VALUE}) {
            Check.due("wisest(" + what + ")", x.wisest(what), -2);
        }
        Check.due("wisest(0) without a PLAIN", new FloodLent().wisest(0), -2);
        Check.due("wisest(1) without a PLAIN", new FloodLent().wisest(1), -2);
    }

    /** What the calls on TAKERS answer now. */
    private static void all(String when, FloodLent x, int best, int safe, long hope, int wise, int drawn) {
        Check.due("best() " + when, x.best(), best);
        Check.due("safe() " + when, x.safe(), safe);
        Check.due("hope(0) " + when, x.hope(0), hope);
        Check.due("wisest(0) " + when, x.wisest(0), hope);
        Check.due("wise(0) " + when, x.wise(0), wise);
        Check.due("year(0, 1) " + when, x.year(0, 1), drawn);
        Check.due("years(0, 1) " + when, x.years(0, 1), drawn == 0 ? 1 : 0);
    }

    private static void fromNowOn() {
        Check.sentence("4, 25, 40: in place of another; from now on; as IMAGE k has them");
        // By nobody nothing is SHORT or 1 is, as more is 0 or not; a FLOOD too late is of no help.
        String text = Tell.river(4, 0, 2) + Tell.village(40, 5) + Tell.village(40, 0) + Tell.loan(0, 1, 5, 0, 1) + Tell.flood(3, 2, 50);
        FloodLent x = Check.with(text);
        all("at first", x, 0, 1, 0, -1, 0);
        x.image(0);
        x.more(1);
        all("with 1 more", x, -1, 0, -1, -1, 1);
        x.restore(0);
        all("restored", x, 0, 1, 0, -1, 0);
        Check.plain(x, text.replace("of 5 on", "of 3 on").replace("more 0", "more 60"));
        all("in place of it", x, -1, 0, -2, -1, 2);
        x.more(0);
        all("with nothing more", x, 0, 1, 0, -1, 0);
        Check.plain(x, text + Tell.crop(0, 5, 4, 3, 3));
        all("with a CROP", x, 4, 1, 4, -1, 0);
        Check.plain(x, "lake");
        all("behind a FAULT", x, 4, 1, 4, -1, 0);
    }

    // ---- MARKS

    /** Two FLOODS of 3 and 5 in WEEKS 0 and 1, two ponds of 2 and 4 that keep what they have till WEEK 4. */
    private static FloodLent posts() {
        return Check.with(Tell.river(5, 0, 4) + Tell.village(99, 2) + Tell.village(99, 4) + Tell.flood(0, 3, 50) + Tell.flood(1, 5, 50));
    }

    private static void put(FloodLent x, int slot, int width, long... numbers) {
        x.row(slot, width, numbers.length);
        for (int i = 0; i < numbers.length; i++) {
            x.write(slot, i, numbers[i]);
        }
    }

    private static void agree() {
        Check.sentence("20: MARKS (IV): by how many TAKERS they AGREE");
        FloodLent x = posts();
        for (int slot = 0; slot < 4; slot++) {
            put(x, slot, slot);
            Check.due("agree() without MARKS", x.agree(slot), 9);
            put(x, slot, slot, 0, 1, 5);
            Check.due("agree(), the first took 3 of the first FLOOD alone", x.agree(slot), 2);
            put(x, slot, slot, 0, 1, 4);
            Check.due("agree(), one less", x.agree(slot), 0);
            put(x, slot, slot, 0, 1, 6);
            Check.due("agree(), one more", x.agree(slot), 0);
            put(x, slot, slot, 0, 1, 10);
            Check.due("agree(), it took both", x.agree(slot), 1);
            put(x, slot, slot, 0, 1, 2);
            Check.due("agree(), it took none", x.agree(slot), 4);
            put(x, slot, slot, 0, 0, 2, 1, 0, 4);
            Check.due("agree(), nobody took the first FLOOD", x.agree(slot), 3);
            put(x, slot, slot, 0, 4, 2, 1, 4, 4, 0, 4, 2);
            Check.due("agree(), behind the last WEEK all is as it was", x.agree(slot), 9);
            put(x, slot, slot, 1, 3, 9, 0, 0, 5);
            Check.due("agree(), each took one", x.agree(slot), 1);
            put(x, slot, slot, 1, 3, 9, 0, 0, 5, 0, 0, 2);
            Check.due("agree(), all must be so", x.agree(slot), 0);
        }
        FloodLent most = Check.with(Tell.river(4, 0, 3) + Tell.village(9, 9).repeat(6) + TEN.repeat(3));
        put(most, 0, 0);
        Check.due("agree() by all", most.agree(0), 343);
        FloodLent least = Check.with(Tell.river(4, 0, 3));
        put(least, 0, 0);
        Check.due("agree() of a river alone", least.agree(0), 1);
    }

    private static void agreeWrong() {
        Check.sentence("20: -2: there is no such SLOT, no PLAIN");
        FloodLent x = posts();
        put(x, 0, 0);
        put(x, 3, 0);
        Check.due("agree(0)", x.agree(0), 9);
        Check.due("agree(3)", x.agree(3), 9);
        for (int slot : new int[] {-1, 4, Integer.MIN_VALUE, Integer.MAX_VALUE}) {
            Check.due("agree(" + slot + ")", x.agree(slot), -2);
        }
        x.plain();
        Check.due("agree(0) without a PLAIN", x.agree(0), -2);
        Check.due("agree(1), nothing, without a PLAIN", x.agree(1), -2);
        Check.due("agree(4) without a PLAIN", x.agree(4), -2);
    }

    /** A row of MARKS that are so by all TAKERS, but for one number. */
    private static void spoil(FloodLent x, int marks, int i, long v) {
        x.row(2, 3, 3 * marks);
        for (int m = 0; m < marks; m++) {
            x.write(2, 3 * m, m % 2);
            x.write(2, 3 * m + 1, 4);
            x.write(2, 3 * m + 2, m % 2 == 0 ? 2 : 4);
        }
        x.write(2, i, v);
    }

    private static void agreeNumbers() {
        Check.sentence("20: -2: .. a number is not so");
        FloodLent x = posts();
        for (int mark : new int[] {0, 1, 19}) {
            for (int v = 0; v < 2; v++) {
                spoil(x, 20, 3 * mark, v);
                Check.due("agree() by a VILLAGE", x.agree(2), v == mark % 2 ? 9 : 0);
            }
            for (long none : new long[] {-1, 2, 6, 1L << 32, Long.MIN_VALUE, Long.MAX_VALUE, 1L << 31}) {
                spoil(x, 20, 3 * mark, none);
                Check.due("agree() by VILLAGE " + none + " in MARK " + mark, x.agree(2), -2);
                Check.due("who() by VILLAGE " + none, x.who(2, 0), -2);
                Check.due("sure() by VILLAGE " + none, x.sure(2, 0, 0), -2);
                Check.due("needed() by VILLAGE " + none, x.needed(2), -2);
            }
            spoil(x, 20, 3 * mark + 1, 4);
            Check.due("agree() by the last WEEK", x.agree(2), 9);
            spoil(x, 20, 3 * mark + 1, 0);
            Check.due("agree() by WEEK 0", x.agree(2), 6);
            for (long none : new long[] {-1, 5, 30, (1L << 32) + 4, Long.MIN_VALUE, Long.MAX_VALUE}) {
                spoil(x, 20, 3 * mark + 1, none);
                Check.due("agree() by WEEK " + none + " in MARK " + mark, x.agree(2), -2);
                Check.due("who() by WEEK " + none, x.who(2, 0), -2);
                Check.due("sure() by WEEK " + none, x.sure(2, 0, 0), -2);
                Check.due("needed() by WEEK " + none, x.needed(2), -2);
            }
        }
        Check.sentence("20: (water is asked as it is told; asked last)");
        for (long level : new long[] {-1, 100, 10000, (1L << 32) + 2, Long.MIN_VALUE, Long.MAX_VALUE}) {
            spoil(x, 20, 2, level);
            Check.due("agree() by water " + level, x.agree(2), 0);
            Check.due("needed() by water " + level, x.needed(2), 0);
            // Also where it is not so, another number may not be one.
            x.write(2, 58, 5);
            Check.due("agree() by water " + level + " and no WEEK behind it", x.agree(2), -2);
        }
        // What was so of one PLAIN may not be of another.
        spoil(x, 2, 2, 2);
        Check.due("agree()", x.agree(2), 9);
        Check.plain(x, Tell.river(5, 0, 4) + Tell.village(99, 2));
        Check.due("agree() with a VILLAGE less", x.agree(2), -2);
        Check.plain(x, Tell.river(4, 0, 3) + Tell.village(99, 2) + Tell.village(99, 4));
        Check.due("agree() with a WEEK less", x.agree(2), -2);
        Check.plain(x, Tell.river(6, 0, 3) + Tell.village(99, 2) + Tell.village(99, 4));
        Check.due("agree() with a WEEK more", x.agree(2), 1);
    }

    private static void agreeThrees() {
        Check.sentence("20: -2: .. not three each");
        // MARKS of zeros: in a pond of nothing all is so.
        FloodLent x = Check.with(Tell.river(4, 0, 3) + Tell.village(0, 0) + TEN);
        for (int n = 0; n <= 60; n++) {
            x.row(1, 0, n);
            Check.due("agree() by " + n + " numbers", x.agree(1), n % 3 == 0 ? 2 : -2);
            Check.due("who() by " + n + " numbers", x.who(1, 0), n % 3 == 0 ? -1 : -2);
            Check.due("sure() by " + n + " numbers", x.sure(1, 0, 3), n % 3 == 0 ? 0 : -2);
            Check.due("needed() by " + n + " numbers", x.needed(1), n % 3 == 0 ? -1 : -2);
        }
    }

    private static void agreeNothing() {
        Check.sentence("20: -6: it has nothing");
        FloodLent x = posts();
        for (int slot = 0; slot < 4; slot++) {
            Check.due("agree(" + slot + ")", x.agree(slot), -6);
            Check.due("who(" + slot + ", 0)", x.who(slot, 0), -6);
            Check.due("sure(" + slot + ", 0, 0)", x.sure(slot, 0, 0), -6);
            Check.due("needed(" + slot + ")", x.needed(slot), -6);
            x.row(slot, 0, -1);
            Check.due("agree(" + slot + ") behind a row that was refused", x.agree(slot), -6);
            x.row(slot, 0, 0);
            Check.due("agree(" + slot + ") of a row of none", x.agree(slot), 9);
        }
    }

    private static void who() {
        Check.sentence("21: Who takes a FLOOD by all of these: a VILLAGE, 9: nobody; NONE: not the same by all, there are none");
        FloodLent x = posts();
        put(x, 0, 0, 0, 0, 5);
        Check.due("who(0, 0), the first", x.who(0, 0), 0);
        Check.due("who(0, 1), not the same", x.who(0, 1), -1);
        put(x, 0, 0, 1, 0, 7);
        Check.due("who(0, 0), the second", x.who(0, 0), 1);
        put(x, 0, 0, 0, 0, 2, 1, 0, 4);
        Check.due("who(0, 0), nobody", x.who(0, 0), 9);
        Check.due("who(0, 1), not the same", x.who(0, 1), -1);
        put(x, 0, 0, 0, 0, 2);
        Check.due("who(0, 0), nobody or the second", x.who(0, 0), -1);
        put(x, 0, 0, 0, 1, 7);
        Check.due("who(0, 0), not the first", x.who(0, 0), -1);
        Check.due("who(0, 1), the first", x.who(0, 1), 0);
        put(x, 0, 0, 0, 1, 5, 1, 1, 9);
        Check.due("who(0, 0), each one", x.who(0, 0), 0);
        Check.due("who(0, 1), each one", x.who(0, 1), 1);
        put(x, 0, 0, 0, 0, 3);
        Check.due("who(0, 0), there are none", x.who(0, 0), -1);
        Check.due("who(0, 1), there are none", x.who(0, 1), -1);
        put(x, 0, 0);
        Check.due("who(0, 0) without MARKS", x.who(0, 0), -1);
        // The last of six, and nobody where there is nobody.
        FloodLent six = Check.with(Tell.river(4, 0, 3) + Tell.village(9, 0).repeat(6) + Tell.flood(0, 1, 1).repeat(3));
        put(six, 0, 0, 5, 0, 3);
        for (int f = 0; f < 3; f++) {
            Check.due("who(0, " + f + ")", six.who(0, f), 5);
        }
        FloodLent river = Check.with(Tell.river(4, 0, 3) + TEN);
        put(river, 0, 0);
        Check.due("who(0, 0) without VILLAGES", river.who(0, 0), 9);
    }

    private static void whoWrong() {
        Check.sentence("21: -2, -6 likewise, no such FLOOD");
        FloodLent x = posts();
        put(x, 0, 0, 0, 0, 5);
        for (int slot : new int[] {-1, 4, Integer.MIN_VALUE, Integer.MAX_VALUE}) {
            Check.due("who(" + slot + ", 0)", x.who(slot, 0), -2);
        }
        for (int f : new int[] {-1, 2, 3, Integer.MIN_VALUE, Integer.MAX_VALUE}) {
            Check.due("who(0, " + f + ")", x.who(0, f), -2);
        }
        Check.due("who(1, 0), nothing", x.who(1, 0), -6);
        x.plain();
        Check.due("who(0, 0) without a PLAIN", x.who(0, 0), -2);
        Check.due("who(1, 0), nothing, without a PLAIN", x.who(1, 0), -2);
    }

    private static void sure() {
        Check.sentence("22: Water of a VILLAGE behind a WEEK by all of these; NONE: not the same, there are none");
        FloodLent x = posts();
        put(x, 0, 0, 0, 0, 5);
        Check.due("sure(0, 0, 0)", x.sure(0, 0, 0), 5);
        Check.due("sure(0, 1, 0)", x.sure(0, 1, 0), 4);
        Check.due("sure(0, 0, 1), not the same", x.sure(0, 0, 1), -1);
        Check.due("sure(0, 1, 1), not the same", x.sure(0, 1, 1), -1);
        Check.due("sure(0, 0, 4), the last WEEK", x.sure(0, 0, 4), 2);
        Check.due("sure(0, 1, 4), the last VILLAGE", x.sure(0, 1, 4), 4);
        put(x, 0, 0, 0, 1, 5);
        Check.due("sure(0, 0, 3)", x.sure(0, 0, 3), 5);
        Check.due("sure(0, 1, 3), not the same", x.sure(0, 1, 3), -1);
        put(x, 0, 0, 0, 1, 5, 1, 1, 9);
        Check.due("sure(0, 1, 0), one is left", x.sure(0, 1, 0), 4);
        Check.due("sure(0, 1, 1), one is left", x.sure(0, 1, 1), 9);
        put(x, 0, 0, 0, 1, 3);
        Check.due("sure(0, 0, 0), there are none", x.sure(0, 0, 0), -1);
        Check.due("sure(0, 0, 4), there are none", x.sure(0, 0, 4), -1);
        put(x, 0, 0);
        Check.due("sure(0, 1, 4) without MARKS", x.sure(0, 1, 4), 4);
        Check.due("sure(0, 1, 0) without MARKS", x.sure(0, 1, 0), -1);
        // Water of 0 is water.
        FloodLent dry = Check.with(Tell.river(4, 0, 3) + Tell.village(0, 0) + TEN);
        put(dry, 0, 0);
        Check.due("sure(0, 0, 0) of nothing", dry.sure(0, 0, 0), 0);
    }

    private static void sureWrong() {
        Check.sentence("22: -2, -6 likewise, none such");
        FloodLent x = posts();
        put(x, 0, 0);
        for (int slot : new int[] {-1, 4, Integer.MIN_VALUE, Integer.MAX_VALUE}) {
            Check.due("sure(" + slot + ", 0, 4)", x.sure(slot, 0, 4), -2);
        }
        for (int v : new int[] {-1, 2, 6, Integer.MIN_VALUE, Integer.MAX_VALUE}) {
            Check.due("sure(0, " + v + ", 4)", x.sure(0, v, 4), -2);
        }
        for (int week : new int[] {-1, 5, 30, Integer.MIN_VALUE, Integer.MAX_VALUE}) {
            Check.due("sure(0, 0, " + week + ")", x.sure(0, 0, week), -2);
        }
        Check.due("sure(1, 0, 4), nothing", x.sure(1, 0, 4), -6);
        x.plain();
        Check.due("sure(0, 0, 4) without a PLAIN", x.sure(0, 0, 4), -2);
        Check.due("sure(1, 0, 4), nothing, without a PLAIN", x.sure(1, 0, 4), -2);
    }

    private static void needed() {
        Check.sentence("23: The first MARK (from 0) without which (alone) more TAKERS AGREE; NONE: none");
        FloodLent x = posts();
        put(x, 0, 0);
        Check.due("needed(0) without MARKS", x.needed(0), -1);
        put(x, 0, 0, 0, 0, 5);
        Check.due("needed(0) of one", x.needed(0), 0);
        put(x, 0, 0, 0, 4, 2);
        Check.due("needed(0) of one that is so by all", x.needed(0), -1);
        put(x, 0, 0, 0, 4, 2, 0, 0, 5);
        Check.due("needed(0), the second", x.needed(0), 1);
        put(x, 0, 0, 0, 0, 5, 0, 0, 5);
        Check.due("needed(0), either of two alike will do", x.needed(0), -1);
        put(x, 0, 0, 0, 0, 5, 0, 0, 5, 0, 1, 10);
        Check.due("needed(0), the third", x.needed(0), 2);
        put(x, 0, 0, 0, 0, 5, 1, 1, 9);
        Check.due("needed(0), both are", x.needed(0), 0);
        // By none they AGREE; without the second, by some.
        put(x, 0, 0, 0, 0, 5, 0, 1, 99);
        Check.due("needed(0), the one that can't be", x.needed(0), 1);
        put(x, 0, 0, 0, 1, 99, 0, 0, 5);
        Check.due("needed(0), the one that can't be, first", x.needed(0), 0);
        put(x, 0, 0, 0, 1, 99, 0, 2, 99);
        Check.due("needed(0), two that can't be", x.needed(0), -1);
        // The last of as many as there may be.
        spoil(x, 20, 59, 5);
        Check.due("needed(2), the last of twenty", x.needed(2), 19);
    }

    private static void neededWrong() {
        Check.sentence("23: -2, -6 likewise");
        FloodLent x = posts();
        put(x, 0, 0);
        for (int slot : new int[] {-1, 4, Integer.MIN_VALUE, Integer.MAX_VALUE}) {
            Check.due("needed(" + slot + ")", x.needed(slot), -2);
        }
        Check.due("needed(1), nothing", x.needed(1), -6);
        x.plain();
        Check.due("needed(0) without a PLAIN", x.needed(0), -2);
        Check.due("needed(1), nothing, without a PLAIN", x.needed(1), -2);
    }
}
