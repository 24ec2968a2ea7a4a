/** Promises 24 to 37: FAIR, more, DEBTS, RINGS, LAWS, MELONS, CANALS, enough and YEARS drawn. */
public final class DebtsTest {
    private static final String WIDE = "village pond 99 water 30 face 0 seep 0;";
    /** The first owes 20 to the second and 10 to the third, and has 15 at the end. */
    private static final String STRUCK = "river weeks 4 more 0 back 0; village pond 99 water 0 face 0 seep 0;"
        + "village pond 99 water 20 face 0 seep 0; village pond 99 water 10 face 0 seep 0;"
        + "crop 0 drinks 30 brings 1 from 0 to 0; flood 2 brings 15 odds 100;"
        + "loan 1 to 0 of 20 on 0 till 1; loan 2 to 0 of 10 on 0 till 1;";
    /** 0 owes 2 14, 2 owes 1 12, 1 owes 0 10; nobody has water then. */
    private static final String ROUND = "river weeks 4 more 0 back 0;" + WIDE + WIDE + WIDE
        + "loan 0 to 1 of 10 on 0 till 2; loan 1 to 2 of 12 on 0 till 2; loan 2 to 0 of 14 on 0 till 2;"
        + "crop 0 drinks 34 brings 0 from 0 to 0; crop 1 drinks 28 brings 0 from 0 to 0; crop 2 drinks 28 brings 0 from 0 to 0;";

    public static void main(String[] args) {
        without();
        fair();
        more();
        owes();
        rings();
        shortRingFirst();
        struck();
        law();
        melons();
        share();
        enough();
        year();
        years();
        Check.close("DebtsTest");
    }

    private static void without() {
        FloodLent x = new FloodLent();
        Check.due("fair(0)", x.fair(0), -2);
        Check.due("more(0)", x.more(0), -2);
        Check.due("owes(0, 1)", x.owes(0, 1), -2);
        Check.due("rings(0)", x.rings(0), -2);
        Check.due("ring(0)", x.ring(0), -2);
        Check.due("left(0, 1)", x.left(0, 1), -2);
        Check.due("struck(0, 0)", x.struck(0, 0), -2);
        Check.due("pays(0, 0, 1)", x.pays(0, 0, 1), -2);
        Check.due("law()", x.law(), -2);
        Check.due("melons(0)", x.melons(0), -2);
        Check.due("share(0)", x.share(0), -2);
        Check.due("enough(0)", x.enough(0), -2);
        Check.due("year(0, 0)", x.year(0, 0), -2);
        Check.due("years(0, 1)", x.years(0, 1), -2);
    }

    private static void fair() {
        String river = "river weeks 4 more 90 back 0; village pond 99 water 50 face 0 seep 0;";
        String crop = "crop 0 drinks 2 brings 5 from 1 to 1;";
        String loan = "loan 0 to 1 of 50 on 0 till 2;";
        // It has 48 and BRINGS 5 if it lends nothing; else it has 50 and the hundredth part of more, rounded up.
        FloodLent x = Check.with(river + "village pond 99 water 30 face 0 seep 0;" + crop + loan);
        Check.due("fair(0)", x.fair(0), 5);
        Check.due("fair(1), which lends nothing", x.fair(1), 0);
        Check.due("fair(2)", x.fair(2), -2);
        Check.due("fair(-1)", x.fair(-1), -2);
        Check.due("more stays", x.more(90), 90);
        // The debtor has no more to give: 2 beyond the 50.
        FloodLent y = Check.with(river + "village pond 99 water 2 face 0 seep 0;" + crop + loan);
        Check.due("fair(0), none", y.fair(0), -1);
        // The river wants more too: the debtor pays 1 of 100 less of the FLOOD ahead of paying the lender.
        FloodLent z = Check.with("river weeks 4 more 0 back 1; village pond 99 water 50 face 0 seep 0;"
            + "village pond 199 water 5 face 0 seep 0;" + crop + loan + "flood 0 brings 100 odds 0;");
        Check.due("fair(0) and no FLOOD", z.fair(0), 5);
        z.takes(0, 1);
        Check.due("fair(0) and a FLOOD", z.fair(0), -1);
        FloodLent all = Check.with("river weeks 4 more 0 back 0; village pond 99 water 1 face 0 seep 0;"
            + "village pond 99 water 9 face 0 seep 0; crop 0 drinks 1 brings 2 from 1 to 1; loan 0 to 1 of 1 on 0 till 2;");
        Check.due("fair(0) by 1 more", all.fair(0), 1);
        FloodLent most = Check.with("river weeks 4 more 0 back 0; village pond 99 water 2 face 0 seep 0;"
            + "village pond 99 water 9 face 0 seep 0; crop 0 drinks 2 brings 4 from 1 to 1; loan 0 to 1 of 2 on 0 till 2;");
        Check.due("fair(0) by more than half", most.fair(0), 51);
        // It would have 98 and BRINGS 102: the 100 that it lends must come back twice.
        String hundred = "river weeks 4 more 0 back 0; village pond 300 water 100 face 0 seep 0;"
            + "village pond 300 water 200 face 0 seep 0; crop 0 drinks 1 brings 51 from 1 to 1; loan 0 to 1 of 100 on 0 till 2;";
        Check.due("fair(0) by all", Check.with(hundred + "crop 0 drinks 1 brings 51 from 1 to 1;").fair(0), 100);
        Check.due("fair(0) by none", Check.with(hundred + "crop 0 drinks 1 brings 52 from 1 to 1;").fair(0), -1);
    }

    private static void more() {
        FloodLent x = Check.with(STRUCK);
        Check.due("more(100)", x.more(100), 0);
        Check.due("more(101)", x.more(101), -2);
        Check.due("more(-1)", x.more(-1), -2);
        Check.due("owed with as much again", x.loan(0, 1), 40);
        Check.due("more(7)", x.more(7), 100);
        Check.due("owed with 7 more", x.loan(1, 1), 11);
        Check.plain(x, "river weeks 4 more 3 back 0;");
        Check.due("more of another PLAIN", x.more(3), 3);
    }

    private static void owes() {
        FloodLent x = Check.with(STRUCK + "loan 1 to 0 of 5 on 2 till 3; loan 1 to 2 of 5 on 0 till 3;");
        Check.due("owes(0, 1)", x.owes(0, 1), 20);
        Check.due("owes(0, 2)", x.owes(0, 2), 10);
        Check.due("owes(1, 0)", x.owes(1, 0), 0);
        Check.due("owes(0, 0)", x.owes(0, 0), -2);
        Check.due("owes(3, 0)", x.owes(3, 0), -2);
        Check.due("owes(0, -1)", x.owes(0, -1), -2);
        FloodLent y = Check.with("river weeks 4 more 50 back 0; village pond 99 water 0 face 0 seep 0;"
            + "village pond 99 water 30 face 0 seep 0; crop 0 drinks 9 brings 0 from 0 to 0;"
            + "loan 1 to 0 of 5 on 0 till 2; loan 1 to 0 of 4 on 0 till 3;");
        Check.due("two LOANS together", y.owes(0, 1), 14);
    }

    private static void rings() {
        FloodLent x = Check.with(ROUND);
        Check.due("owes(1, 0)", x.owes(1, 0), 10);
        Check.due("owes(2, 1)", x.owes(2, 1), 12);
        Check.due("owes(0, 2)", x.owes(0, 2), 14);
        Check.due("rings(0)", x.rings(0), 1);
        Check.due("rings(1)", x.rings(1), 30);
        Check.due("ring(0)", x.ring(0), 7);
        Check.due("ring(1)", x.ring(1), -1);
        Check.due("ring(-1)", x.ring(-1), -1);
        Check.due("left(1, 0)", x.left(1, 0), 0);
        Check.due("left(2, 1)", x.left(2, 1), 2);
        Check.due("left(0, 2)", x.left(0, 2), 4);
        Check.due("left(2, 0)", x.left(2, 0), 0);
        Check.due("owes(0, 2), all the same", x.owes(0, 2), 14);
        Check.due("rings(2)", x.rings(2), -2);
        Check.due("rings(-1)", x.rings(-1), -2);
        Check.due("left(1, 1)", x.left(1, 1), -2);
        Check.due("left(3, 1)", x.left(3, 1), -2);
        Check.due("left(1, -1)", x.left(1, -1), -2);
        // Each asked first of a new object.
        Check.due("ring(0) first", Check.with(ROUND).ring(0), 7);
        Check.due("left(2, 1) first", Check.with(ROUND).left(2, 1), 2);
        Check.due("rings(1) first", Check.with(ROUND).rings(1), 30);
        Check.due("owes(2, 1) first", Check.with(ROUND).owes(2, 1), 12);
        Check.due("struck(0, 1) first", Check.with(ROUND).struck(0, 1), 7);
        // And of another PLAIN in the same object.
        Check.plain(x, STRUCK);
        Check.due("left(0, 1) of another", x.left(0, 1), 20);
        Check.due("left(1, 0) of another", x.left(1, 0), 0);
        Check.plain(x, ROUND);
        Check.due("ring(0) as it was", x.ring(0), 7);
        Check.plain(x, STRUCK);
        Check.due("ring(0) of another", x.ring(0), -1);
        Check.due("ring(0) of nothing owed", Check.with("river weeks 4 more 0 back 0;").ring(0), -1);
    }

    /** Of two that owe each other and the round of three, the two are CLEARED first. */
    private static void shortRingFirst() {
        FloodLent x = Check.with("river weeks 4 more 0 back 0;" + WIDE + WIDE + WIDE
            + "loan 0 to 1 of 10 on 0 till 2; loan 1 to 2 of 12 on 0 till 2; loan 2 to 0 of 14 on 0 till 2;"
            + "loan 2 to 1 of 5 on 0 till 2;"
            + "crop 0 drinks 34 brings 0 from 0 to 0; crop 1 drinks 33 brings 0 from 0 to 0; crop 2 drinks 23 brings 0 from 0 to 0;");
        // 1 and 2 owe each other 5 and 12: 7 are left, then the round of 0, 2, 1 is less by 7.
        Check.due("rings(0)", x.rings(0), 2);
        Check.due("rings(1)", x.rings(1), 31);
        Check.due("ring(0)", x.ring(0), 6);
        Check.due("ring(1)", x.ring(1), 7);
        Check.due("left(1, 0)", x.left(1, 0), 3);
        Check.due("left(0, 2)", x.left(0, 2), 7);
        Check.due("left(2, 1)", x.left(2, 1), 0);
        // Two pairs: the one with the lesser VILLAGES first.
        FloodLent y = Check.with("river weeks 4 more 0 back 0;" + WIDE + WIDE + WIDE
            + "loan 1 to 2 of 3 on 0 till 2; loan 2 to 1 of 4 on 0 till 2; loan 0 to 2 of 5 on 0 till 2; loan 2 to 0 of 6 on 0 till 2;"
            + "crop 0 drinks 31 brings 0 from 0 to 0; crop 1 drinks 31 brings 0 from 0 to 0; crop 2 drinks 28 brings 0 from 0 to 0;");
        Check.due("two pairs", y.rings(0), 2);
        Check.due("the first", y.ring(0), 5);
        Check.due("the second", y.ring(1), 6);
        Check.due("by how much", y.rings(1), 16);
    }

    private static void struck() {
        FloodLent x = Check.with(STRUCK);
        Check.due("nothing to pay with", x.struck(0, 0), 0);
        Check.due("both RUINED", x.struck(2, 1), 6);
        x.takes(0, 0);
        int[][] pays = {{15, 0}, {5, 10}, {10, 5}};
        int[] ruined = {4, 2, 0};
        for (int law = 0; law < 3; law++) {
            Check.due("struck(" + law + ", 0)", x.struck(law, 0), 15);
            Check.due("struck(" + law + ", 1)", x.struck(law, 1), ruined[law]);
            Check.due("pays(" + law + ", 0, 1)", x.pays(law, 0, 1), pays[law][0]);
            Check.due("pays(" + law + ", 0, 2)", x.pays(law, 0, 2), pays[law][1]);
            Check.due("pays(" + law + ", 1, 0)", x.pays(law, 1, 0), 0);
        }
        Check.due("owes() as ever", x.owes(0, 1), 20);
        Check.due("water(0, 3) as ever", x.water(0, 3), 15);
        Check.due("struck(3, 0)", x.struck(3, 0), -2);
        Check.due("struck(-1, 0)", x.struck(-1, 0), -2);
        Check.due("struck(0, 2)", x.struck(0, 2), -2);
        Check.due("struck(0, -1)", x.struck(0, -1), -2);
        Check.due("pays(3, 0, 1)", x.pays(3, 0, 1), -2);
        Check.due("pays(-1, 0, 1)", x.pays(-1, 0, 1), -2);
        Check.due("pays(0, 1, 1)", x.pays(0, 1, 1), -2);
        Check.due("pays(0, 3, 1)", x.pays(0, 3, 1), -2);
        Check.due("pays(0, 1, -1)", x.pays(0, 1, -1), -2);
        // Alike DEBTS: the lesser VILLAGE first; parts are cut.
        FloodLent y = Check.with(STRUCK.replace("of 20", "of 10").replace("drinks 30", "drinks 20"));
        y.takes(0, 0);
        Check.due("alike, the lesser first", y.pays(1, 0, 1), 10);
        Check.due("alike, the other one", y.pays(1, 0, 2), 5);
        Check.due("half, cut", y.pays(2, 0, 1), 7);
        Check.due("half, cut, together", y.struck(2, 0), 14);
        // As much water as DEBTS, and more than them: all.
        FloodLent z = Check.with(STRUCK.replace("brings 15", "brings 30"));
        z.takes(0, 0);
        Check.due("all", z.struck(2, 0), 30);
        Check.due("none RUINED", z.struck(0, 1), 0);
        FloodLent w = Check.with(STRUCK.replace("brings 15", "brings 99"));
        w.takes(0, 0);
        Check.due("no more than all", w.struck(2, 0), 30);
        Check.due("no more than all", w.struck(1, 0), 30);
        Check.due("no more than each", w.pays(0, 0, 1), 20);
    }

    private static void law() {
        FloodLent x = Check.with(STRUCK);
        Check.due("law(), alike", x.law(), 0);
        x.takes(0, 0);
        Check.due("law(), the last ruins none", x.law(), 2);
        // 8: parts ruin one (5 and 2 of 20 and 10), the lesser first likewise; 10 and 8: the least first ruins one.
        FloodLent y = Check.with(STRUCK.replace("brings 15", "brings 6"));
        y.takes(0, 0);
        Check.due("the lesser first ruins both", y.struck(0, 1), 6);
        Check.due("the least first ruins one", y.struck(1, 1), 2);
        Check.due("parts ruin both", y.struck(2, 1), 6);
        Check.due("law(), the least first", y.law(), 1);
    }

    private static void melons() {
        FloodLent x = Check.with(STRUCK + "crop 0 drinks 1 brings 1 from 0 to 0; crop 1 drinks 9 brings 1 from 3 to 3;");
        Check.due("just as many", x.melons(0), 1);
        x.takes(0, 0);
        Check.due("of FLOODS too, rounded up", x.melons(0), 2);
        Check.due("nothing SHORT", x.melons(1), 0);
        Check.due("no CROP", x.melons(2), -1);
        Check.due("melons(3)", x.melons(3), -2);
        Check.due("melons(-1)", x.melons(-1), -2);
    }

    private static void share() {
        FloodLent x = Check.with("river weeks 4 more 0 back 0;" + WIDE + WIDE + WIDE
            + "canal 0 costs 99; canal 1 costs 9; canal 2 costs 5; canal 0 costs 10;");
        // 10 by three, cut; and 9 by two, cut; 24 less 3 and 7.
        Check.due("share(0)", x.share(0), 3);
        Check.due("share(1)", x.share(1), 7);
        Check.due("share(2)", x.share(2), 14);
        Check.due("share(3)", x.share(3), -2);
        Check.due("share(-1)", x.share(-1), -2);
        FloodLent y = Check.with("river weeks 4 more 0 back 0;" + WIDE + "canal 0 costs 7;");
        Check.due("share(0) of one", y.share(0), 7);
        FloodLent z = Check.with("river weeks 4 more 0 back 0;" + WIDE + WIDE);
        Check.due("share(1) of nothing", z.share(1), 0);
    }

    private static void enough() {
        String dry = "river weeks 5 more 20 back 3;"
            + "village pond 30 water 10 face 20 seep 2; village pond 25 water 4 face 10 seep 1;"
            + "crop 0 drinks 3 brings 5 from 1 to 3; crop 1 drinks 6 brings 9 from 2 to 4;"
            + "sun 1 is 50; flood 1 brings 15 odds 40; loan 0 to 1 of 5 on 0 till 2;";
        FloodLent x = Check.with(dry);
        Check.due("enough(0)", x.enough(0), 24);
        Check.due("enough(2)", x.enough(2), -2);
        Check.due("enough(-1)", x.enough(-1), -2);
        Check.due("water at first stays", x.village(0, 1), 10);
        Check.due("enough(0), a pond of 24", Check.with(dry.replace("pond 30", "pond 24")).enough(0), 24);
        Check.due("enough(0), a pond of 23", Check.with(dry.replace("pond 30", "pond 23")).enough(0), -1);
        FloodLent y = Check.with("river weeks 4 more 0 back 3; village pond 9999 water 5 face 0 seep 0;"
            + "village pond 50 water 7 face 0 seep 0; crop 0 drinks 99 brings 0 from 0 to 3; flood 0 brings 100 odds 0;");
        Check.due("enough without CROPS", y.enough(1), 0);
        Check.due("enough for four times 99", y.enough(0), 396);
        y.takes(0, 0);
        // The river comes first in the last WEEK: it wants 100 ahead of the CROP.
        Check.due("enough by a FLOOD", y.enough(0), 396);
        // More is not always better: with 4 the second drinks 9 and can't pay back, with 3 it does.
        FloodLent z = Check.with("river weeks 4 more 0 back 3; village pond 20 water 0 face 0 seep 0;"
            + "village pond 20 water 5 face 0 seep 0; crop 1 drinks 9 brings 0 from 0 to 0; crop 0 drinks 3 brings 0 from 1 to 1;"
            + "loan 0 to 1 of 4 on 0 till 1;");
        Check.due("enough(0), the least", z.enough(0), 3);
    }

    private static void year() {
        // Draws of 0: 0, 68, 88; of 1: 38, 58, 13; of 2: 8, 17, 39; of 2,000,000,000: 4, 33, 21.
        FloodLent x = Check.with("river weeks 4 more 0 back 0; village pond 99 water 0 face 0 seep 0;"
            + "crop 0 drinks 1 brings 2 from 2 to 3; flood 1 brings 10 odds 38; flood 2 brings 20 odds 68; flood 1 brings 5 odds 100;");
        Check.due("year(0, 2)", x.year(0, 2), 5);
        Check.due("year(1, 2)", x.year(1, 2), 6);
        Check.due("year(2, 2)", x.year(2, 2), 7);
        Check.due("year(2000000000, 2)", x.year(2000000000, 2), 7);
        Check.due("year(0, 0) by nobody", x.year(0, 0), 0);
        x.takes(0, 0);
        x.takes(1, 0);
        Check.due("year(0, 0)", x.year(0, 0), 4);
        Check.due("year(0, 1)", x.year(0, 1), 10);
        Check.due("year(1, 0)", x.year(1, 0), 4);
        Check.due("year(1, 1)", x.year(1, 1), 20);
        Check.due("year(2, 1)", x.year(2, 1), 30);
        x.takes(1, -1);
        Check.due("year(1, 0) without a taker of it", x.year(1, 0), 0);
        Check.due("year(1, 1) without a taker of it", x.year(1, 1), 0);
        Check.due("all come in the YEAR itself", x.flood(0, 0), 10);
        Check.due("year(-1, 0)", x.year(-1, 0), -2);
        Check.due("year(2000000001, 0)", x.year(2000000001, 0), -2);
        Check.due("year(0, 3)", x.year(0, 3), -2);
        Check.due("year(0, -1)", x.year(0, -1), -2);
        FloodLent y = Check.with("river weeks 4 more 0 back 0; flood 0 brings 1 odds 0;");
        Check.due("a draw of 0 is not below odds of 0", y.year(0, 2), 0);
        FloodLent z = Check.with("river weeks 4 more 0 back 0; flood 0 brings 1 odds 1;");
        Check.due("a draw of 0 is below odds of 1", z.year(0, 2), 1);
    }

    private static void years() {
        FloodLent x = Check.with("river weeks 4 more 0 back 0; village pond 99 water 0 face 0 seep 0; flood 1 brings 10 odds 20;");
        Check.due("years by nobody", x.years(0, 20), 20);
        x.takes(0, 0);
        // The first draws of 0 .. 8 are 0, 38, 8, 47, 17, 55, 26, 64, 34.
        Check.due("years(0, 1)", x.years(0, 1), 0);
        Check.due("years(1, 1)", x.years(1, 1), 1);
        Check.due("years(0, 5)", x.years(0, 5), 2);
        Check.due("years(1, 8)", x.years(1, 8), 6);
        Check.due("years(2000000000, 2)", x.years(2000000000, 2), 1);
        Check.due("years(0, 0)", x.years(0, 0), -2);
        Check.due("years(0, 21)", x.years(0, 21), -2);
        Check.due("years(-1, 1)", x.years(-1, 1), -2);
        Check.due("years(2000000001, 1)", x.years(2000000001, 1), -2);
    }
}
