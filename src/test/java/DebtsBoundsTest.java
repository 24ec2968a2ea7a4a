/** Promises 24 to 37 with terms V and VI, sentence by sentence: each at the bound that it names and on both sides of it. */
public final class DebtsBoundsTest {
    private static final int[] NO_NUMBERS = {-1, Integer.MIN_VALUE, Integer.MAX_VALUE};
    /** 0 owes 20 to 1 and 10 to 2. */
    private static final String TWENTY_TEN = Tell.debts(3, of(0, 1, 20), of(0, 2, 10));

    public static void main(String[] args) {
        fairLeast();
        fairNothingLent();
        fairAll();
        fairWrong();
        more();
        moreRefused();
        owes();
        owesWrong();
        ringOfTwo();
        ringRound();
        ringFewest();
        ringLeastRow();
        ringAgain();
        rings();
        ring();
        left();
        lawLesserFirst();
        lawLeastFirst();
        lawParts();
        struckByEach();
        ruined();
        struckWrong();
        pays();
        law();
        melons();
        melonsNone();
        share();
        shareWrong();
        enough();
        enoughNone();
        drawBelowOdds();
        drawModulo();
        year();
        yearWrong();
        years();
        yearsWrong();
        Check.close("DebtsBoundsTest");
    }

    /** A DEBT: who, to whom, how much. */
    private static int[] of(int village, int to, int much) {
        return new int[] {village, to, much};
    }

    /** By DEBTS that nobody can pay, but with so much water at the end for a VILLAGE. */
    private static FloodLent having(String debts, int village, int water) {
        FloodLent x = Check.with(debts + Tell.flood(3, water, 50));
        x.takes(0, village);
        return x;
    }

    // ---- FAIR and more

    private static void fairLeast() {
        Check.sentence("24: the least part of a hundred more (0 .. 100) by which a VILLAGE has no less at the end of the YEAR than if it "
            + "lent nothing; NONE: by none");
        // It lends 10 and can't water a CROP by 1 of it: what that BRINGS above 1 must come back as more.
        for (int above = 0; above <= 11; above++) {
            FloodLent x = Check.with(Tell.river(4, 77, 0) + Tell.village(99, 10) + Tell.village(99, 50) + Tell.crop(0, 1, 1 + above, 1, 1)
                + Tell.loan(0, 1, 10, 0, 2));
            Check.due("fair(0) for " + above, x.fair(0), above == 0 ? 0 : above == 11 ? -1 : 10 * above - 9);
            Check.due("more stays", x.count(7), 77);
        }
        // It is better off by lending than not: nothing more is fair.
        FloodLent saved = Check.with(Tell.river(4, 0, 0) + Tell.village(99, 10, 99, 0) + Tell.village(99, 0) + Tell.sun(1, 99)
            + Tell.loan(0, 1, 10, 0, 2));
        Check.due("fair(0) of what the SKY would drink", saved.fair(0), 0);
    }

    private static void fairNothingLent() {
        Check.sentence("24: than if it lent nothing: what its CROPS BRING and its water, together");
        // It lends to two, and borrows of the second to water its CROP; what others lend stays.
        String text = Tell.river(4, 0, 0) + Tell.village(99, 10) + Tell.village(99, 50) + Tell.village(99, 50);
        FloodLent both = Check.with(text + Tell.crop(0, 1, 3, 1, 1) + Tell.loan(0, 1, 5, 0, 2) + Tell.loan(0, 2, 5, 0, 2));
        Check.due("fair(0), each LOAN 1 more", both.fair(0), 1);
        FloodLent lentOn = Check.with(text + Tell.crop(0, 1, 3, 1, 1) + Tell.loan(0, 1, 10, 0, 2) + Tell.loan(1, 0, 1, 1, 3));
        Check.due("fair(0), it waters it by what it borrows", lentOn.fair(0), 0);
        Check.due("fair(1)", lentOn.fair(1), 0);
        // With what it borrows it could water a CROP of 15, but for the 10 that it lends.
        FloodLent borrows = Check.with(text + Tell.crop(0, 15, 50, 0, 0) + Tell.loan(0, 1, 10, 0, 2) + Tell.loan(1, 0, 5, 0, 1));
        Check.due("fair(0), by lending nothing it still borrows", borrows.fair(0), -1);
        FloodLent other = Check.with(text + Tell.crop(1, 1, 99, 1, 1) + Tell.loan(0, 1, 10, 0, 2));
        Check.due("fair(0), another's CROP", other.fair(0), 0);
        FloodLent watered = Check.with(Tell.river(4, 0, 0) + Tell.village(99, 10) + Tell.village(99, 1) + Tell.crop(0, 1, 2, 1, 1)
            + Tell.crop(1, 2, 99, 0, 0) + Tell.loan(0, 1, 10, 0, 2));
        // The debtor pays 9; by lending nothing it has 9 and BRINGS 2, whatever another's CROP BRINGS.
        Check.due("fair(0), another's CROP that it waters", watered.fair(0), -1);
        Check.due("fair(1)", watered.fair(1), 0);
        FloodLent twice = Check.with(text + Tell.crop(0, 1, 2, 1, 1) + Tell.crop(0, 1, 2, 1, 1) + Tell.loan(0, 1, 10, 0, 2));
        Check.due("fair(0), two CROPS", twice.fair(0), 11);
    }

    private static void fairAll() {
        Check.sentence("24: for all LOANS and FLOODS; TAKERS as they are");
        // The debtor has 12 less what the river wants more for 100; it owes 10 and the part more.
        String text = Tell.river(4, 0, 1) + Tell.village(99, 10) + Tell.village(199, 2) + Tell.crop(0, 1, 2, 1, 1) + Tell.loan(0, 1, 10, 0, 2)
            + Tell.flood(0, 100, 0);
        FloodLent x = Check.with(text);
        Check.due("fair(0), nobody takes it", x.fair(0), 1);
        x.takes(0, 1);
        Check.due("fair(0), the debtor takes it", x.fair(0), 1);
        FloodLent y = Check.with(text.replace("brings 2 ", "brings 3 "));
        Check.due("fair(0), nobody takes it", y.fair(0), 11);
        y.takes(0, 1);
        Check.due("fair(0), the debtor takes it", y.fair(0), -1);
        // A FLOOD of 20 of its own, to be given back with the part more whether it lends or not: it BRINGS 3 by 1 or lends 10.
        FloodLent own = Check.with(Tell.river(4, 0, 3) + Tell.village(99, 10) + Tell.village(99, 50) + Tell.crop(0, 1, 3, 1, 1)
            + Tell.loan(0, 1, 10, 0, 2) + Tell.flood(2, 20, 0));
        own.takes(0, 0);
        for (int now : new int[] {0, 11, 100}) {
            own.more(now);
            Check.due("fair(0), whatever more is now", own.fair(0), 11);
        }
        // The lender that takes it pays more itself, whether it lends or not.
        FloodLent z = Check.with(text.replace("on 0 till 2", "on 2 till 3"));
        z.takes(0, 0);
        Check.due("fair(0), it takes it itself", z.fair(0), 0);
    }

    private static void fairWrong() {
        Check.sentence("24: -2: there is none such");
        FloodLent x = Check.with(Tell.river(4, 0, 0) + Tell.village(9, 9).repeat(6));
        Check.due("fair(5)", x.fair(5), 0);
        Check.due("fair(6)", x.fair(6), -2);
        for (int none : NO_NUMBERS) {
            Check.due("fair(" + none + ")", x.fair(none), -2);
        }
        Check.due("fair(1) of one", Check.with(Tell.river(4, 0, 0) + Tell.village(9, 9)).fair(1), -2);
        Check.due("fair(0) without a PLAIN", new FloodLent().fair(0), -2);
    }

    private static void more() {
        Check.sentence("25: The part more is this (0 .. 100) from now on: which it was");
        FloodLent x = Check.with(Tell.river(4, 30, 3) + Tell.village(999, 0) + Tell.village(999, 200) + Tell.flood(0, 10, 50) + Tell.loan(1, 0, 200, 0, 3));
        x.takes(0, 0);
        int was = 30;
        for (int n : new int[] {0, 100, 99, 1, 1, 50}) {
            Check.due("more(" + n + ")", x.more(n), was);
            Check.due("count(7)", x.count(7), n);
            Check.due("owed for a FLOOD", x.flood(0, 1), 10 + (n + 9) / 10);
            Check.due("owed for a LOAN", x.loan(0, 1), 200 + 2 * n);
            was = n;
        }
        Check.due("a PLAIN in place of it", Check.plain(x, Tell.river(4, 7, 0)), 1);
        Check.due("more(8) of that", x.more(8), 7);
    }

    private static void moreRefused() {
        Check.sentence("25: -2: there is none such, no PLAIN");
        FloodLent x = Check.with(Tell.river(4, 30, 3) + Tell.village(999, 0) + Tell.flood(0, 10, 50));
        x.takes(0, 0);
        for (int n : new int[] {-1, 101, Integer.MIN_VALUE, Integer.MAX_VALUE}) {
            Check.due("more(" + n + ")", x.more(n), -2);
            Check.due("count(7), nothing happened", x.count(7), 30);
            Check.due("owed for a FLOOD", x.flood(0, 1), 13);
        }
        FloodLent none = new FloodLent();
        Check.due("more(0) without a PLAIN", none.more(0), -2);
        Check.due("more(100) without a PLAIN", none.more(100), -2);
        Check.due("count(7) without a PLAIN", none.count(7), 0);
        Check.due("more(0) of a river alone", Check.with(Tell.river(4, 30, 3)).more(0), 30);
    }

    // ---- DEBTS and RINGS

    private static void owes() {
        Check.sentence("V: DEBTS: what each VILLAGE owes each other one: SHORT of all LOANS, together");
        FloodLent x = Check.with(Tell.debts(6, of(0, 1, 5), of(0, 1, 7), of(1, 0, 3), of(5, 4, 2), of(0, 5, 9)) + Tell.flood(3, 30, 50));
        x.takes(0, 4);
        int[][] due = {{0, 12, 0, 0, 0, 9}, {3, 0, 0, 0, 0, 0}, {0, 0, 0, 0, 0, 0}, {0, 0, 0, 0, 0, 0}, {0, 0, 0, 0, 0, 0}, {0, 0, 0, 0, 2, 0}};
        for (int v = 0; v < 6; v++) {
            for (int to = 0; to < 6; to++) {
                Check.due("owes(" + v + ", " + to + ")", x.owes(v, to), v == to ? -2 : due[v][to]);
            }
        }
        // What is PAID is no DEBT: of 10 and 5 more 14, 15 and 16 could be paid.
        for (int has = 4; has <= 6; has++) {
            FloodLent y = Check.with(Tell.river(4, 50, 0) + Tell.village(99, 10) + Tell.village(99, has) + Tell.loan(0, 1, 10, 0, 1));
            Check.due("owes(1, 0) with " + has, y.owes(1, 0), has == 4 ? 1 : 0);
            Check.due("owes(0, 1)", y.owes(0, 1), 0);
        }
    }

    private static void owesWrong() {
        Check.sentence("26: -2: there are none such, one twice");
        FloodLent x = Check.with(Tell.debts(3, of(0, 2, 5)));
        Check.due("owes(0, 2)", x.owes(0, 2), 5);
        for (int none : new int[] {-1, 3, 5, 6, Integer.MIN_VALUE, Integer.MAX_VALUE}) {
            Check.due("owes(0, " + none + ")", x.owes(0, none), -2);
            Check.due("owes(" + none + ", 0)", x.owes(none, 0), -2);
            Check.due("owes(" + none + ", " + none + ")", x.owes(none, none), -2);
        }
        for (int v = 0; v < 3; v++) {
            Check.due("owes(" + v + ", " + v + ")", x.owes(v, v), -2);
        }
        Check.due("owes(0, 1) without a PLAIN", new FloodLent().owes(0, 1), -2);
    }

    private static void ringOfTwo() {
        Check.sentence("V: RING: VILLAGES, two or more, each of which owes the next one, round");
        for (int back = 0; back <= 7; back++) {
            FloodLent x = Check.with(back == 0 ? Tell.debts(2, of(0, 1, 5)) : Tell.debts(2, of(0, 1, 5), of(1, 0, back)));
            int least = Math.min(5, back);
            Check.due("rings(0) of 5 and " + back, x.rings(0), back == 0 ? 0 : 1);
            Check.due("rings(1) of 5 and " + back, x.rings(1), 2 * least);
            Check.due("ring(0)", x.ring(0), back == 0 ? -1 : 3);
            Check.due("left(0, 1)", x.left(0, 1), 5 - least);
            Check.due("left(1, 0)", x.left(1, 0), back - least);
        }
    }

    private static void ringRound() {
        Check.sentence("V: It is CLEARED: all its DEBTS are less by the least of them");
        // Six in a round, one way and the other; each of the six DEBTS the least once.
        for (int least = 0; least < 6; least++) {
            for (int way = 1; way <= 5; way += 4) {
                int[][] debts = new int[6][];
                for (int i = 0; i < 6; i++) {
                    debts[i] = of(i, (i + way) % 6, i == least ? 3 : 4 + i);
                }
                FloodLent x = Check.with(Tell.debts(6, debts));
                Check.due("rings(0) of six", x.rings(0), 1);
                Check.due("rings(1) of six", x.rings(1), 18);
                Check.due("ring(0) of six", x.ring(0), 63);
                for (int i = 0; i < 6; i++) {
                    Check.due("left() of six", x.left(i, (i + way) % 6), i == least ? 0 : 1 + i);
                    Check.due("owes() of six", x.owes(i, (i + way) % 6), i == least ? 3 : 4 + i);
                }
            }
        }
        // A row that is not closed is none.
        FloodLent open = Check.with(Tell.debts(6, of(0, 1, 5), of(1, 2, 5), of(2, 3, 5), of(3, 4, 5), of(4, 5, 5), of(0, 5, 5)));
        Check.due("rings(0) of none", open.rings(0), 0);
        Check.due("rings(1) of none", open.rings(1), 0);
        Check.due("left(0, 5) of none", open.left(0, 5), 5);
    }

    private static void rings(String text, int by, int... bits) {
        FloodLent x = Check.with(text);
        Check.due("rings(0)", x.rings(0), bits.length);
        Check.due("rings(1)", x.rings(1), by);
        for (int i = 0; i < bits.length; i++) {
            Check.due("ring(" + i + ")", x.ring(i), bits[i]);
        }
        Check.due("ring(" + bits.length + ")", x.ring(bits.length), -1);
    }

    private static void ringFewest() {
        Check.sentence("V: of all that with the fewest");
        int[][] three = {of(0, 1, 5), of(1, 2, 5), of(2, 0, 5)};
        rings(Tell.debts(5, three[0], three[1], three[2], of(3, 4, 2), of(4, 3, 2)), 4 + 15, 24, 7);
        // The two have one DEBT of the three: they leave 3 of it.
        rings(Tell.debts(5, three[0], three[1], three[2], of(2, 1, 2)), 4 + 9, 6, 7);
        rings(Tell.debts(5, three[0], three[1], three[2], of(2, 1, 5)), 10, 6);
        // Three ahead of four, four ahead of five.
        rings(Tell.debts(5, of(0, 1, 5), of(1, 2, 5), of(2, 3, 5), of(3, 0, 5), of(3, 1, 2)), 6 + 12, 14, 15);
        rings(Tell.debts(5, of(0, 1, 5), of(1, 2, 5), of(2, 3, 5), of(3, 4, 5), of(4, 0, 5), of(4, 1, 2)), 8 + 15, 30, 31);
    }

    private static void ringLeastRow() {
        Check.sentence("V: of these the least row that begins with its least VILLAGE");
        // 0, 1, 4 is ahead of 0, 2, 3, though its bits are more.
        rings(Tell.debts(5, of(0, 2, 1), of(2, 3, 1), of(3, 0, 1), of(0, 1, 1), of(1, 4, 1), of(4, 0, 1)), 6, 19, 13);
        rings(Tell.debts(6, of(1, 2, 1), of(2, 3, 1), of(3, 1, 1), of(0, 4, 1), of(4, 5, 1), of(5, 0, 1)), 6, 49, 14);
        rings(Tell.debts(4, of(2, 3, 1), of(3, 2, 1), of(0, 1, 1), of(1, 0, 1)), 4, 3, 12);
        // 0, 1, 2 and 0, 1, 3 have one DEBT both: the first one takes it all.
        FloodLent x = Check.with(Tell.debts(4, of(0, 1, 5), of(1, 3, 5), of(3, 0, 5), of(1, 2, 5), of(2, 0, 5)));
        Check.due("rings(0)", x.rings(0), 1);
        Check.due("ring(0)", x.ring(0), 7);
        Check.due("left(1, 3)", x.left(1, 3), 5);
        Check.due("left(3, 0)", x.left(3, 0), 5);
        Check.due("left(1, 2)", x.left(1, 2), 0);
        // 0, 2, 1 and 0, 3, 1 have one DEBT both; behind them 1, 2 and 1, 3 and 2, 3, which have none.
        FloodLent y = Check.with(Tell.debts(4, of(1, 0, 4), of(0, 3, 4), of(3, 1, 4), of(0, 2, 4), of(2, 1, 4)));
        Check.due("ring(0)", y.ring(0), 7);
        Check.due("left(0, 3)", y.left(0, 3), 4);
        Check.due("left(0, 2)", y.left(0, 2), 0);
        rings(Tell.debts(4, of(2, 3, 5), of(3, 2, 2), of(1, 3, 3), of(3, 1, 3), of(1, 2, 2), of(2, 1, 2)), 4 + 6 + 4, 6, 10, 12);
        // 0, 1, 3 and 1, 3, 2 have a DEBT both.
        FloodLent z = Check.with(Tell.debts(4, of(0, 2, 3), of(2, 1, 3), of(1, 3, 3), of(3, 0, 3), of(0, 1, 3), of(3, 2, 3)));
        Check.due("ring(0)", z.ring(0), 11);
        Check.due("left(1, 3)", z.left(1, 3), 0);
        Check.due("left(3, 2)", z.left(3, 2), 3);
    }

    private static void ringAgain() {
        Check.sentence("V: again, till there is none");
        rings(Tell.debts(6, of(4, 5, 1), of(5, 4, 2), of(2, 3, 3), of(3, 2, 4), of(0, 2, 5), of(2, 0, 6), of(0, 1, 7), of(1, 0, 8)), 2 * (1 + 3 + 5 + 7),
            3, 5, 12, 48);
        rings(Tell.debts(3, of(0, 1, 5), of(1, 0, 3), of(0, 2, 3), of(2, 0, 5), of(1, 2, 5), of(2, 1, 3)), 6 + 6 + 6 + 6, 3, 5, 6, 7);
        rings(Tell.debts(3, of(0, 1, 5), of(1, 0, 3), of(0, 2, 3), of(2, 0, 4), of(1, 2, 5), of(2, 1, 3)), 6 + 6 + 6 + 3, 3, 5, 6, 7);
        // The one that is less ends it: of 0 and 1 nothing is left for the round.
        rings(Tell.debts(3, of(0, 1, 5), of(1, 0, 5), of(1, 2, 5), of(2, 0, 5)), 10, 3);
    }

    private static void rings() {
        Check.sentence("27: RINGS that are CLEARED (V), what 0: how many, 1: by how much all DEBTS are less together");
        FloodLent x = Check.with(Tell.debts(3, of(0, 1, 9), of(1, 2, 8), of(2, 0, 7)));
        for (int i = 0; i < 2; i++) {
            Check.due("rings(0)", x.rings(0), 1);
            Check.due("rings(1)", x.rings(1), 21);
            Check.due("owes(0, 1), as it was", x.owes(0, 1), 9);
        }
        Check.sentence("27: -2: there is no such what, no PLAIN");
        for (int what : new int[] {-1, 2, Integer.MIN_VALUE, Integer.MAX_VALUE}) {
            Check.due("rings(" + what + ")", x.rings(what), -2);
        }
        FloodLent none = new FloodLent();
        Check.due("rings(0) without a PLAIN", none.rings(0), -2);
        Check.due("rings(1) without a PLAIN", none.rings(1), -2);
        Check.due("rings(0) of a river alone", Check.with(Tell.river(4, 0, 0)).rings(0), 0);
    }

    private static void ring() {
        Check.sentence("28: The VILLAGES of the i-th one (from 0), as bits; NONE: there is none such. -2: there is no PLAIN");
        FloodLent x = Check.with(Tell.debts(6, of(0, 5, 9), of(5, 0, 8), of(2, 4, 7), of(4, 2, 7)));
        Check.due("ring(0)", x.ring(0), 33);
        Check.due("ring(1)", x.ring(1), 20);
        for (int i : new int[] {2, 3, 7, 8, 9, -1, Integer.MIN_VALUE, Integer.MAX_VALUE}) {
            Check.due("ring(" + i + ")", x.ring(i), -1);
        }
        Check.due("ring(0) of a river alone", Check.with(Tell.river(4, 0, 0)).ring(0), -1);
        FloodLent none = new FloodLent();
        Check.due("ring(0) without a PLAIN", none.ring(0), -2);
        Check.due("ring(-1) without a PLAIN", none.ring(-1), -2);
    }

    private static void left() {
        Check.sentence("29: What is left of a DEBT then. -2: there are none such, one twice");
        FloodLent x = Check.with(Tell.debts(3, of(0, 1, 9), of(1, 0, 4), of(2, 0, 7)));
        int[][] due = {{-2, 5, 0}, {0, -2, 0}, {7, 0, -2}};
        for (int v = 0; v < 3; v++) {
            for (int to = 0; to < 3; to++) {
                Check.due("left(" + v + ", " + to + ")", x.left(v, to), due[v][to]);
            }
        }
        for (int none : new int[] {-1, 3, 5, 6, Integer.MIN_VALUE, Integer.MAX_VALUE}) {
            Check.due("left(0, " + none + ")", x.left(0, none), -2);
            Check.due("left(" + none + ", 0)", x.left(none, 0), -2);
            Check.due("left(" + none + ", " + none + ")", x.left(none, none), -2);
        }
        Check.due("left(0, 1) without a PLAIN", new FloodLent().left(0, 1), -2);
    }

    // ---- LAWS

    private static void struck(String debts, int law, int[][] cases) {
        for (int[] c : cases) {
            FloodLent x = having(debts, 0, c[0]);
            int all = 0;
            for (int to = 1; to < c.length; to++) {
                Check.due("pays(" + law + ", 0, " + to + ") with " + c[0], x.pays(law, 0, to), c[to]);
                all += c[to];
            }
            Check.due("struck(" + law + ", 0) with " + c[0], x.struck(law, 0), all);
        }
    }

    private static void lawLesserFirst() {
        Check.sentence("V: STRUCK by a LAW: 0 to the lesser VILLAGE first");
        int[][] cases = {{0, 0, 0}, {1, 1, 0}, {19, 19, 0}, {20, 20, 0}, {21, 20, 1}, {29, 20, 9}, {30, 20, 10}, {31, 20, 10}, {9999, 20, 10}};
        struck(TWENTY_TEN, 0, cases);
        // In whatever order they were lent.
        struck(Tell.debts(3, of(0, 2, 10), of(0, 1, 20)), 0, cases);
    }

    private static void lawLeastFirst() {
        Check.sentence("V: STRUCK by a LAW: 1 the least DEBT first (of alike ones to the lesser VILLAGE)");
        int[][] cases = {{0, 0, 0}, {9, 0, 9}, {10, 0, 10}, {11, 1, 10}, {29, 19, 10}, {30, 20, 10}, {31, 20, 10}};
        struck(TWENTY_TEN, 1, cases);
        struck(Tell.debts(3, of(0, 2, 10), of(0, 1, 20)), 1, cases);
        int[][] alike = {{9, 9, 0}, {10, 10, 0}, {11, 10, 1}, {20, 10, 10}, {21, 10, 10}};
        struck(Tell.debts(3, of(0, 1, 10), of(0, 2, 10)), 1, alike);
        struck(Tell.debts(3, of(0, 2, 10), of(0, 1, 10)), 1, alike);
        // One less or more, and it is not alike.
        struck(Tell.debts(3, of(0, 1, 10), of(0, 2, 9)), 1, new int[][] {{10, 1, 9}});
        struck(Tell.debts(3, of(0, 1, 10), of(0, 2, 11)), 1, new int[][] {{10, 10, 0}});
        struck(Tell.debts(6, of(0, 1, 10), of(0, 2, 5), of(0, 3, 10), of(0, 5, 5)), 1, new int[][] {{4, 0, 4, 0, 0, 0}, {9, 0, 5, 0, 0, 4},
            {10, 0, 5, 0, 0, 5}, {12, 2, 5, 0, 0, 5}, {21, 10, 5, 1, 0, 5}, {30, 10, 5, 10, 0, 5}, {31, 10, 5, 10, 0, 5}});
    }

    private static void lawParts() {
        Check.sentence("V: STRUCK by a LAW: 2 to each its part (DEBT times water by all its DEBTS, cut), if that water is less than all, else all");
        struck(TWENTY_TEN, 2, new int[][] {{0, 0, 0}, {1, 0, 0}, {2, 1, 0}, {3, 2, 1}, {14, 9, 4}, {15, 10, 5}, {16, 10, 5}, {29, 19, 9}, {30, 20, 10},
            {31, 20, 10}, {9999, 20, 10}});
        struck(Tell.debts(4, of(0, 1, 1), of(0, 2, 1), of(0, 3, 1)), 2, new int[][] {{1, 0, 0, 0}, {2, 0, 0, 0}, {3, 1, 1, 1}, {4, 1, 1, 1}});
        struck(Tell.debts(2, of(0, 1, 7)), 2, new int[][] {{6, 6}, {7, 7}, {8, 7}});
    }

    private static void struckByEach() {
        Check.sentence("V: each VILLAGE pays its DEBTS (as not CLEARED) with the water that it has at the end");
        FloodLent x = Check.with(Tell.debts(3, of(0, 1, 10), of(1, 0, 6), of(1, 2, 10)) + Tell.flood(3, 12, 50) + Tell.flood(3, 3, 50));
        x.takes(0, 0);
        x.takes(1, 1);
        // Not 4, as with the RING CLEARED; and not of the 10 that it gets.
        int[] byLaw = {3, 3, 1};
        int[] onward = {0, 0, 1};
        for (int law = 0; law < 3; law++) {
            Check.due("pays(" + law + ", 0, 1)", x.pays(law, 0, 1), 10);
            Check.due("pays(" + law + ", 1, 0)", x.pays(law, 1, 0), byLaw[law]);
            Check.due("pays(" + law + ", 1, 2)", x.pays(law, 1, 2), onward[law]);
            Check.due("struck(" + law + ", 0)", x.struck(law, 0), 10 + byLaw[law] + onward[law]);
        }
        Check.due("rings(0)", x.rings(0), 1);
        Check.due("pays(0, 0, 1) behind rings()", x.pays(0, 0, 1), 10);
        Check.due("water as ever", x.water(0, 3), 12);
        // In the same object, where DEBTS were ahead of it.
        FloodLent none = having(Tell.debts(3, of(0, 1, 10), of(1, 2, 9), of(2, 0, 8)), 0, 30);
        Check.due("struck(0, 0) with DEBTS", none.struck(0, 0), 10);
        Check.plain(none, Tell.debts(3));
        for (int law = 0; law < 3; law++) {
            Check.due("struck(" + law + ", 0) without DEBTS", none.struck(law, 0), 0);
            Check.due("struck(" + law + ", 1) without DEBTS", none.struck(law, 1), 0);
            Check.due("pays(" + law + ", 0, 1) without DEBTS", none.pays(law, 0, 1), 0);
        }
    }

    private static void ruined() {
        Check.sentence("V: RUINED: who gets less than half of all that is owed to it (if something is)");
        int[][] cases = {{20, 9, 1}, {20, 10, 0}, {20, 11, 0}, {21, 10, 1}, {21, 11, 0}, {1, 0, 1}, {1, 1, 0}, {2, 0, 1}, {2, 1, 0}, {20, 0, 1}};
        for (int[] c : cases) {
            FloodLent x = having(Tell.debts(3, of(0, 1, c[0])), 0, c[1]);
            for (int law = 0; law < 3; law++) {
                Check.due("struck(" + law + ", 1) of " + c[0] + " by " + c[1], x.struck(law, 1), 2 * c[2]);
            }
        }
        // Of two debtors together: 10 and 11 are owed, 10 and 0 or 10 and 1 paid.
        String two = Tell.debts(3, of(0, 2, 10), of(1, 2, 11));
        Check.due("struck(0, 1) of two", having(two, 0, 30).struck(0, 1), 4);
        FloodLent x = Check.with(two + Tell.flood(3, 30, 50) + Tell.flood(3, 1, 50));
        x.takes(0, 0);
        x.takes(1, 1);
        Check.due("struck(0, 1) of two that pay", x.struck(0, 1), 0);
        // As bits, up to the last one; and all.
        Check.due("struck(0, 1), the last", Check.with(Tell.debts(6, of(0, 5, 9))).struck(0, 1), 32);
        FloodLent all = Check.with(Tell.debts(6, of(0, 1, 9), of(1, 2, 9), of(2, 3, 9), of(3, 4, 9), of(4, 5, 9), of(5, 0, 9)));
        Check.due("struck(0, 1), all", all.struck(0, 1), 63);
        Check.due("struck(2, 1), all", all.struck(2, 1), 63);
    }

    private static void struckWrong() {
        Check.sentence("30: -2: there are none such, no PLAIN");
        FloodLent x = having(TWENTY_TEN, 0, 15);
        int[] ruined = {4, 2, 0};
        for (int law = 0; law < 3; law++) {
            Check.due("struck(" + law + ", 0)", x.struck(law, 0), 15);
            Check.due("struck(" + law + ", 1)", x.struck(law, 1), ruined[law]);
            for (int what : new int[] {-1, 2, Integer.MIN_VALUE, Integer.MAX_VALUE}) {
                Check.due("struck(" + law + ", " + what + ")", x.struck(law, what), -2);
            }
        }
        for (int law : new int[] {-1, 3, Integer.MIN_VALUE, Integer.MAX_VALUE}) {
            Check.due("struck(" + law + ", 0)", x.struck(law, 0), -2);
            Check.due("struck(" + law + ", 1)", x.struck(law, 1), -2);
        }
        Check.due("struck(0, 0) without a PLAIN", new FloodLent().struck(0, 0), -2);
        Check.due("struck(0, 1) without a PLAIN", new FloodLent().struck(0, 1), -2);
        Check.due("struck(0, 0) of a river alone", Check.with(Tell.river(4, 0, 0)).struck(0, 0), 0);
    }

    private static void pays() {
        Check.sentence("31: What one pays another one then. -2: there are none such, one twice");
        FloodLent x = having(TWENTY_TEN, 0, 21);
        int[][] due = {{20, 1}, {11, 10}, {14, 7}};
        for (int law = 0; law < 3; law++) {
            Check.due("pays(" + law + ", 0, 1)", x.pays(law, 0, 1), due[law][0]);
            Check.due("pays(" + law + ", 0, 2)", x.pays(law, 0, 2), due[law][1]);
            Check.due("pays(" + law + ", 1, 0)", x.pays(law, 1, 0), 0);
            for (int none : new int[] {-1, 3, 5, 6, Integer.MIN_VALUE, Integer.MAX_VALUE}) {
                Check.due("pays(" + law + ", 0, " + none + ")", x.pays(law, 0, none), -2);
                Check.due("pays(" + law + ", " + none + ", 0)", x.pays(law, none, 0), -2);
            }
            for (int v = 0; v < 3; v++) {
                Check.due("pays(" + law + ", " + v + ", " + v + ")", x.pays(law, v, v), -2);
            }
        }
        for (int law : new int[] {-1, 3, Integer.MIN_VALUE, Integer.MAX_VALUE}) {
            Check.due("pays(" + law + ", 0, 1)", x.pays(law, 0, 1), -2);
        }
        Check.due("pays(0, 0, 1) without a PLAIN", new FloodLent().pays(0, 0, 1), -2);
    }

    private static void law() {
        Check.sentence("32: The LAW by which the fewest are RUINED, the first of several");
        // With 6 the second ruins one, the others two; 10 and more suffice it for both; with 15 the parts just do.
        int[][] cases = {{0, 0}, {4, 0}, {5, 1}, {6, 1}, {9, 1}, {10, 0}, {14, 0}, {15, 2}, {19, 2}, {20, 1}, {24, 1}, {25, 0}, {30, 0}, {31, 0}};
        for (int[] c : cases) {
            Check.due("law() with " + c[0], having(TWENTY_TEN, 0, c[0]).law(), c[1]);
        }
        Check.due("law() without DEBTS", Check.with(Tell.debts(3)).law(), 0);
        Check.due("law() of a river alone", Check.with(Tell.river(4, 0, 0)).law(), 0);
        Check.due("law(), all are RUINED", Check.with(Tell.debts(6, of(0, 1, 9), of(1, 2, 9), of(2, 3, 9), of(3, 4, 9), of(4, 5, 9), of(5, 0, 9))).law(), 0);
        Check.sentence("32: -2: there is no PLAIN");
        Check.due("law()", new FloodLent().law(), -2);
    }

    // ---- MELONS, CANALS, enough

    private static void melons() {
        Check.sentence("33: MELONS: by how many of its first CROP (each is what it drinks) a VILLAGE could pay all that is SHORT of it "
            + "(LOANS and FLOODS), rounded up");
        int[][] cases = {{0, 5, 0}, {1, 5, 1}, {4, 5, 1}, {5, 5, 1}, {6, 5, 2}, {10, 5, 2}, {11, 5, 3}, {7, 1, 7}, {1, 99, 1}, {99, 99, 1}, {100, 99, 2}};
        for (int[] c : cases) {
            // Of a FLOOD, of a LOAN, of both.
            FloodLent x = having(Tell.debts(2) + Tell.crop(0, c[1], 1, 1, 1), 0, c[0]);
            Check.due("melons(0) of a FLOOD of " + c[0], x.melons(0), c[2]);
            if (c[0] > 0 && c[0] < 50) {
                String loan = Tell.debts(2, of(0, 1, c[0])) + Tell.crop(1, 9, 1, 1, 1) + Tell.crop(0, c[1], 1, 1, 1) + Tell.crop(0, 2, 1, 1, 1);
                Check.due("melons(0) of a LOAN of " + c[0], Check.with(loan).melons(0), c[2]);
                Check.due("melons(1), to whom it is owed", Check.with(loan).melons(1), 0);
            }
            if (c[0] > 1 && c[0] < 50) {
                FloodLent both = having(Tell.debts(2, of(0, 1, c[0] - 1)) + Tell.crop(0, c[1], 1, 1, 1), 0, 1);
                Check.due("melons(0) of a LOAN and a FLOOD of 1", both.melons(0), c[2]);
            }
        }
        // Of what is PAID nothing: 7 of 10 more of a LOAN, 4 of 9 of a FLOOD, and 10 of 10.
        FloodLent part = Check.with(Tell.river(4, 0, 2) + Tell.village(50, 10) + Tell.village(50, 0) + Tell.loan(0, 1, 10, 0, 1) + Tell.crop(1, 3, 1, 0, 0)
            + Tell.flood(2, 9, 50) + Tell.crop(0, 2, 1, 1, 1) + Tell.flood(0, 10, 50));
        Check.due("melons(1) of a LOAN PAID in part", part.melons(1), 1);
        part.takes(0, 1);
        part.takes(1, 0);
        Check.due("SHORT of the LOAN", part.loan(0, 3), 3);
        Check.due("melons(1), a FLOOD all PAID", part.melons(1), 1);
        part.more(50);
        Check.due("SHORT of the LOAN with more", part.loan(0, 3), 8);
        Check.due("SHORT of the FLOOD with more", part.flood(0, 3), 5);
        Check.due("melons(1) of both PAID in part", part.melons(1), 5);
        // Of all LOANS and all FLOODS that it takes, 3 each, and of no others.
        FloodLent all = Check.with(Tell.debts(3, of(0, 1, 3), of(0, 2, 3), of(0, 1, 3), of(1, 2, 30)) + Tell.flood(3, 3, 1).repeat(2) + Tell.flood(3, 40, 1)
            + Tell.crop(0, 1, 1, 1, 1));
        all.takes(0, 0);
        all.takes(1, 0);
        all.takes(2, 1);
        Check.due("melons(0) of five", all.melons(0), 15);
    }

    private static void melonsNone() {
        Check.sentence("33: NONE: it has no CROP; -2: there is none such");
        FloodLent x = Check.with(Tell.debts(6, of(0, 1, 9), of(5, 1, 8)) + Tell.crop(5, 3, 1, 1, 1));
        Check.due("melons(0), no CROP", x.melons(0), -1);
        Check.due("melons(1), no CROP and nothing SHORT", x.melons(1), -1);
        Check.due("melons(5)", x.melons(5), 3);
        Check.due("melons(6)", x.melons(6), -2);
        for (int none : NO_NUMBERS) {
            Check.due("melons(" + none + ")", x.melons(none), -2);
        }
        Check.due("melons(1) of one", Check.with(Tell.river(4, 0, 0) + Tell.village(9, 9)).melons(1), -2);
        Check.due("melons(0) without a PLAIN", new FloodLent().melons(0), -2);
    }

    private static void shares(int[] costs, int... due) {
        StringBuilder s = new StringBuilder(Tell.river(4, 0, 0) + Tell.village(9, 9).repeat(costs.length));
        for (int v = 0; v < costs.length; v++) {
            s.append(Tell.canal(v, costs[v]));
        }
        FloodLent x = Check.with(s.toString());
        for (int v = 0; v < due.length; v++) {
            Check.due("share(" + v + ") of " + s, x.share(v), due[v]);
        }
    }

    private static void share() {
        Check.sentence("34: CANALS: of the cost of its own and all ahead of it each is borne alike by that VILLAGE and all behind, cut; "
            + "the last VILLAGE bears all that is left");
        shares(new int[] {8, 0, 0}, 2, 2, 4);
        shares(new int[] {9, 0, 0}, 3, 3, 3);
        shares(new int[] {10, 0, 0}, 3, 3, 4);
        shares(new int[] {11, 0, 0}, 3, 3, 5);
        shares(new int[] {12, 0, 0}, 4, 4, 4);
        shares(new int[] {2, 0, 0}, 0, 0, 2);
        shares(new int[] {0, 7, 0}, 0, 3, 4);
        shares(new int[] {0, 1, 0}, 0, 0, 1);
        shares(new int[] {0, 0, 7}, 0, 0, 7);
        // Each cost is cut, not their sum: 5 by three and 3 by two; 8 less 1 and 2 are left, and 4.
        shares(new int[] {5, 3, 4}, 1, 2, 9);
        shares(new int[] {7}, 7);
        shares(new int[] {0}, 0);
        shares(new int[] {9999, 9999, 9999, 9999, 9999, 9999}, 1666, 3665, 6164, 9497, 14496, 24506);
        shares(new int[] {5, 4, 3, 2, 1, 0}, 0, 0, 0, 0, 0, 15);
        shares(new int[] {6, 5, 4, 3, 2, 1}, 1, 2, 3, 4, 5, 6);
    }

    private static void shareWrong() {
        Check.sentence("34: -2: there is none such");
        FloodLent x = Check.with(Tell.river(4, 0, 0) + Tell.village(9, 9).repeat(6));
        Check.due("share(5)", x.share(5), 0);
        Check.due("share(6)", x.share(6), -2);
        for (int none : NO_NUMBERS) {
            Check.due("share(" + none + ")", x.share(none), -2);
        }
        Check.due("share(1) of one", Check.with(Tell.river(4, 0, 0) + Tell.village(9, 9) + Tell.canal(0, 3)).share(1), -2);
        Check.due("share(0) without a PLAIN", new FloodLent().share(0), -2);
    }

    private static void enough() {
        Check.sentence("35: The least water at first (0 .. pond) by which a VILLAGE's CROPS are never DRY, all else as it is");
        String other = Tell.village(20, 1) + Tell.crop(1, 9, 1, 0, 3);
        for (int pond = 9; pond <= 11; pond++) {
            for (int water = 0; water <= pond; water += pond) {
                FloodLent x = Check.with(Tell.river(4, 0, 0) + Tell.village(pond, water) + other + Tell.crop(0, 5, 1, 0, 0) + Tell.crop(0, 5, 1, 3, 3));
                Check.due("enough(0) in a pond of " + pond, x.enough(0), pond < 10 ? -1 : 10);
                Check.due("water at first, as it was", x.village(0, 1), water);
                Check.due("water behind WEEK 2, as it was", x.water(0, 2), Math.max(0, water - 5));
            }
        }
        Check.due("enough(0) without CROPS", Check.with(Tell.river(4, 0, 0) + Tell.village(9, 9) + other).enough(0), 0);
        // TAKERS as they are: 3 come in time, or in the WEEK behind.
        FloodLent x = Check.with(Tell.river(4, 0, 3) + Tell.village(20, 0) + other + Tell.crop(0, 5, 1, 0, 1) + Tell.flood(1, 3, 0));
        Check.due("enough(0) by nobody", x.enough(0), 10);
        x.takes(0, 0);
        Check.due("enough(0) by a FLOOD", x.enough(0), 7);
        x.takes(0, 1);
        Check.due("enough(0) by another's FLOOD", x.enough(0), 10);
        // More is not always better: with 4 the other's CROP drinks all and nothing is paid back, with 3 it does not.
        FloodLent less = Check.with(Tell.river(4, 0, 3) + Tell.village(20, 0) + Tell.village(20, 5) + Tell.crop(1, 9, 0, 0, 0)
            + Tell.crop(0, 3, 0, 1, 1) + Tell.loan(0, 1, 4, 0, 1));
        Check.due("enough(0), the least", less.enough(0), 3);
        FloodLent full = Check.with(Tell.river(4, 0, 0) + Tell.village(9999, 0) + Tell.crop(0, 99, 1, 0, 3).repeat(8));
        Check.due("enough(0) of the most that CROPS drink", full.enough(0), 99 * 4 * 8);
    }

    private static void enoughNone() {
        Check.sentence("35: NONE: by none; -2: there is none such");
        FloodLent x = Check.with(Tell.river(4, 0, 0) + Tell.village(0, 0) + Tell.village(1, 0) + Tell.crop(0, 1, 1, 3, 3) + Tell.crop(1, 1, 1, 3, 3));
        Check.due("enough(0), no pond", x.enough(0), -1);
        Check.due("enough(1), all the pond", x.enough(1), 1);
        Check.due("enough(2)", x.enough(2), -2);
        for (int none : NO_NUMBERS) {
            Check.due("enough(" + none + ")", x.enough(none), -2);
        }
        Check.due("enough(0) without a PLAIN", new FloodLent().enough(0), -2);
        // What seeps and what the SKY drinks in between.
        FloodLent y = Check.with(Tell.river(4, 0, 0) + Tell.village(12, 0, 20, 2) + Tell.sun(0, 10) + Tell.crop(0, 5, 1, 2, 2));
        Check.due("enough(0), 2 and 2 and 2 are lost", y.enough(0), 11);
        // In a full pond there is no ROOM for a FLOOD, which is wanted later.
        FloodLent z = Check.with(Tell.river(4, 0, 3) + Tell.village(5, 0) + Tell.crop(0, 5, 1, 0, 1) + Tell.flood(1, 5, 50));
        Check.due("enough(0) by nobody", z.enough(0), -1);
        z.takes(0, 0);
        Check.due("enough(0) by a FLOOD", z.enough(0), 5);
    }

    // ---- DRAWS

    private static void drawBelowOdds() {
        Check.sentence("VI: FLOOD by FLOOD a draw: it comes, if it is below odds");
        int[][] draws = {{0, 0, 68, 88}, {1, 38, 58, 13}, {2, 8, 17, 39}, {16, 69, 61, 99}, {20, 86, 92, 2}, {24, 3, 90, 5}, {1999999999, 33, 43, 96},
            {2000000000, 4, 33, 21}};
        for (int[] d : draws) {
            for (int bits = 0; bits < 8; bits++) {
                StringBuilder s = new StringBuilder(Tell.river(4, 0, 0));
                for (int f = 0; f < 3; f++) {
                    s.append(Tell.flood(f, 1, d[1 + f] + (bits >> f & 1)));
                }
                Check.due("year(" + d[0] + ", 2) by odds as drawn, or 1 more", Check.with(s.toString()).year(d[0], 2), bits);
            }
        }
        // A FLOOD that can't come has its draw, too.
        int[][] odds = {{0, 68, 89, 4}, {0, 69, 88, 2}, {0, 0, 88, 0}, {1, 0, 88, 1}, {1, 0, 89, 5}};
        for (int[] o : odds) {
            FloodLent x = Check.with(Tell.river(4, 0, 0) + Tell.flood(0, 1, o[0]) + Tell.flood(0, 1, o[1]) + Tell.flood(0, 1, o[2]));
            Check.due("year(0, 2) by odds of " + o[0] + ", " + o[1] + ", " + o[2], x.year(0, 2), o[3]);
        }
        FloodLent never = Check.with(Tell.river(4, 0, 0) + Tell.flood(0, 1, 0).repeat(3));
        FloodLent ever = Check.with(Tell.river(4, 0, 0) + Tell.flood(0, 1, 100).repeat(3));
        FloodLent one = Check.with(Tell.river(4, 0, 0) + Tell.flood(0, 1, 100));
        FloodLent none = Check.with(Tell.river(4, 0, 0));
        for (int seed = 0; seed < 50; seed++) {
            Check.due("year(" + seed + ", 2) by odds of 0", never.year(seed, 2), 0);
            Check.due("year(" + seed + ", 2) by odds of 100", ever.year(seed, 2), 7);
            Check.due("year(" + seed + ", 2) of one", one.year(seed, 2), 1);
            Check.due("year(" + seed + ", 2) of none", none.year(seed, 2), 0);
        }
    }

    private static void drawModulo() {
        Check.sentence("VI: x becomes (1103515245 x + 12345) modulo 2,147,483,648; a draw: x / 65536, cut, modulo 100");
        for (int seed : new int[] {3, 99, 65535, 65536, 1073741824, 1234567890, 1999999999}) {
            java.math.BigInteger x = java.math.BigInteger.valueOf(seed);
            int[] drawn = new int[3];
            for (int f = 0; f < 3; f++) {
                x = x.multiply(java.math.BigInteger.valueOf(1103515245)).add(java.math.BigInteger.valueOf(12345))
                    .mod(java.math.BigInteger.valueOf(2147483648L));
                drawn[f] = x.divide(java.math.BigInteger.valueOf(65536)).intValue() % 100;
            }
            for (int odds = 0; odds <= 100; odds++) {
                FloodLent plain = Check.with(Tell.river(4, 0, 0) + Tell.flood(0, 1, odds).repeat(3));
                int bits = (drawn[0] < odds ? 1 : 0) + (drawn[1] < odds ? 2 : 0) + (drawn[2] < odds ? 4 : 0);
                Check.due("year(" + seed + ", 2) by odds of " + odds, plain.year(seed, 2), bits);
            }
        }
    }

    private static void year() {
        Check.sentence("36: In a YEAR drawn from a seed by TAKERS as they are, what 0: what is BROUGHT, 1: SHORT in all, 2: FLOODS that come, as bits");
        // Draws of 0: 0 and 68; of 1: 38 and 58; of 3: 47 and 7; of 5: 55 and 57.
        FloodLent x = Check.with(Tell.river(4, 50, 0) + Tell.village(20, 0) + Tell.village(20, 5) + Tell.village(20, 0) + Tell.crop(0, 3, 7, 1, 2)
            + Tell.loan(1, 2, 4, 0, 1) + Tell.flood(1, 4, 50) + Tell.flood(2, 4, 10));
        int[] seeds = {0, 1, 3, 5};
        int[] come = {1, 1, 3, 0};
        for (int i = 0; i < 4; i++) {
            Check.due("year(" + seeds[i] + ", 0) by nobody", x.year(seeds[i], 0), 0);
            Check.due("year(" + seeds[i] + ", 1) by nobody", x.year(seeds[i], 1), 2);
            Check.due("year(" + seeds[i] + ", 2) by nobody", x.year(seeds[i], 2), come[i]);
        }
        x.takes(0, 0);
        x.takes(1, 0);
        int[] brought = {7, 7, 14, 0};
        int[] lacks = {2 + 6, 2 + 6, 2 + 12, 2};
        for (int i = 0; i < 4; i++) {
            Check.due("year(" + seeds[i] + ", 0)", x.year(seeds[i], 0), brought[i]);
            Check.due("year(" + seeds[i] + ", 1)", x.year(seeds[i], 1), lacks[i]);
            Check.due("year(" + seeds[i] + ", 2)", x.year(seeds[i], 2), come[i]);
        }
        Check.due("sum(0), all come in the YEAR itself", x.sum(0), 14);
        x.takes(0, 1);
        Check.due("year(0, 0) by another", x.year(0, 0), 0);
        Check.due("year(3, 0) by another", x.year(3, 0), 7);
    }

    private static void yearWrong() {
        Check.sentence("36: a seed (0 .. 2,000,000,000); -2: there are none such, no PLAIN");
        FloodLent x = Check.with(Tell.river(4, 0, 0) + Tell.flood(0, 1, 100));
        for (int what = 0; what < 3; what++) {
            Check.due("year(0, " + what + ")", x.year(0, what), what / 2);
            Check.due("year(2000000000, " + what + ")", x.year(2000000000, what), what / 2);
            for (int seed : new int[] {-1, 2000000001, Integer.MIN_VALUE, Integer.MAX_VALUE}) {
                Check.due("year(" + seed + ", " + what + ")", x.year(seed, what), -2);
            }
            Check.due("year(0, " + what + ") without a PLAIN", new FloodLent().year(0, what), -2);
        }
        for (int what : new int[] {-1, 3, Integer.MIN_VALUE, Integer.MAX_VALUE}) {
            Check.due("year(0, " + what + ")", x.year(0, what), -2);
        }
    }

    private static void years() {
        Check.sentence("37: Of n such YEARS from seeds, the seed and 1, .., in how many nothing is SHORT");
        // The first draws of 0 .. 19.
        int[] draws = {0, 38, 8, 47, 17, 55, 26, 64, 34, 72, 43, 81, 51, 90, 60, 98, 69, 7, 77, 16};
        for (int odds : new int[] {0, 1, 47, 50, 98, 99, 100}) {
            FloodLent x = Check.with(Tell.river(4, 0, 0) + Tell.village(9, 0) + Tell.flood(1, 1, odds));
            for (int n = 1; n <= 20; n++) {
                Check.due("years(0, " + n + ") by nobody", x.years(0, n), n);
            }
            x.takes(0, 0);
            for (int seed = 0; seed < 20; seed++) {
                int fine = 0;
                for (int n = 1; n <= 20 - seed; n++) {
                    fine += draws[seed + n - 1] < odds ? 0 : 1;
                    Check.due("years(" + seed + ", " + n + ") by odds of " + odds, x.years(seed, n), fine);
                }
            }
        }
        FloodLent loan = Check.with(Tell.debts(2, of(0, 1, 1)));
        Check.due("years(0, 20) of a LOAN that is SHORT", loan.years(0, 20), 0);
        Check.due("years(0, 20) of a river alone", Check.with(Tell.river(4, 0, 0)).years(0, 20), 20);
    }

    private static void yearsWrong() {
        Check.sentence("37: n (1 .. 20); -2 likewise");
        FloodLent x = Check.with(Tell.river(4, 0, 0));
        Check.due("years(0, 1)", x.years(0, 1), 1);
        Check.due("years(2000000000, 1)", x.years(2000000000, 1), 1);
        Check.due("years(0, 20)", x.years(0, 20), 20);
        for (int n : new int[] {0, 21, -1, Integer.MIN_VALUE, Integer.MAX_VALUE}) {
            Check.due("years(0, " + n + ")", x.years(0, n), -2);
        }
        for (int seed : new int[] {-1, 2000000001, Integer.MIN_VALUE, Integer.MAX_VALUE}) {
            Check.due("years(" + seed + ", 1)", x.years(seed, 1), -2);
            Check.due("years(" + seed + ", 20)", x.years(seed, 20), -2);
        }
        Check.due("years(0, 1) without a PLAIN", new FloodLent().years(0, 1), -2);
    }
}
