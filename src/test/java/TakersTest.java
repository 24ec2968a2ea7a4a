/** Promises 14 to 23: BEST, WISE, HOPE and MARKS. */
public final class TakersTest {
    private static final String DRY = "river weeks 5 more 20 back 3;"
        + "village pond 30 water 10 face 20 seep 2; village pond 25 water 4 face 10 seep 1;"
        + "crop 0 drinks 3 brings 5 from 1 to 3; crop 1 drinks 6 brings 9 from 2 to 4;"
        + "sun 1 is 50; flood 1 brings 15 odds 40; loan 0 to 1 of 5 on 0 till 2;";
    private static final String WET = "river weeks 4 more 10 back 2; village pond 40 water 20 face 0 seep 5;"
        + "village pond 40 water 0 face 0 seep 0; crop 1 drinks 6 brings 9 from 0 to 0;";
    private static final String FLOOD = "flood 0 brings 10 odds 25;";

    public static void main(String[] args) {
        without();
        best();
        firstOfSeveral();
        hope();
        wise();
        forgets();
        marks();
        marksWrong();
        noFloods();
        Check.close("TakersTest");
    }

    private static void without() {
        FloodLent x = new FloodLent();
        x.row(0, 0, 0);
        Check.due("best()", x.best(), -2);
        Check.due("safe()", x.safe(), -2);
        Check.due("taker(0)", x.taker(0), -2);
        Check.due("hope(0)", x.hope(0), -2);
        Check.due("hope(1)", x.hope(1), -2);
        Check.due("wise(0)", x.wise(0), -2);
        Check.due("wisest(0)", x.wisest(0), -2);
        Check.due("wisest(1)", x.wisest(1), -2);
        Check.due("agree(0)", x.agree(0), -2);
        Check.due("agree(1)", x.agree(1), -2);
        Check.due("who(0, 0)", x.who(0, 0), -2);
        Check.due("sure(0, 0, 0)", x.sure(0, 0, 0), -2);
        Check.due("needed(0)", x.needed(0), -2);
    }

    private static void best() {
        FloodLent x = Check.with(WET + FLOOD);
        Check.due("best()", x.best(), 9);
        Check.due("taker(0)", x.taker(0), 1);
        Check.due("safe()", x.safe(), 3);
        Check.due("taker(1)", x.taker(1), -2);
        Check.due("taker(-1)", x.taker(-1), -2);
        Check.due("asking takes nothing", x.takes(0, -1), -1);
        FloodLent y = Check.with(DRY);
        Check.due("best() if always SHORT", y.best(), -1);
        Check.due("taker(0) if always SHORT", y.taker(0), -1);
        Check.due("safe() if always SHORT", y.safe(), 0);
    }

    private static void firstOfSeveral() {
        // Either of two like FLOODS will do: nobody takes FLOOD 0, as that row is ahead.
        FloodLent x = Check.with(WET + FLOOD + FLOOD);
        Check.due("best()", x.best(), 9);
        Check.due("taker(0)", x.taker(0), -1);
        Check.due("taker(1)", x.taker(1), 1);
        Check.due("safe()", x.safe(), 9);
        // With crops of no VILLAGE all are alike: nobody is first.
        FloodLent y = Check.with("river weeks 4 more 0 back 3; village pond 9 water 0 face 0 seep 0;" + FLOOD + FLOOD);
        Check.due("best()", y.best(), 0);
        Check.due("taker(0)", y.taker(0), -1);
        Check.due("wise(0)", y.wise(0), -1);
        Check.due("wise(1)", y.wise(1), -1);
    }

    private static void hope() {
        FloodLent x = Check.with(DRY);
        Check.due("hope(0) nobody", x.hope(0), 8);
        Check.due("hope(1) nobody", x.hope(1), 1);
        x.takes(0, 0);
        Check.due("hope(0) by 0", x.hope(0), 16);
        Check.due("hope(1) by 0", x.hope(1), 5);
        x.takes(0, 1);
        Check.due("hope(0) by 1", x.hope(0), 42);
        Check.due("hope(1) by 1", x.hope(1), 5);
        Check.due("hope(2)", x.hope(2), -2);
        Check.due("hope(-1)", x.hope(-1), -2);
        // All is SHORT: 20 by half.
        FloodLent y = Check.with("river weeks 4 more 0 back 0; village pond 99 water 0 face 0 seep 0; flood 1 brings 25 odds 50;");
        y.takes(0, 0);
        Check.due("hope(0) below 0", y.hope(0), -25);
        Check.due("hope(1) below 0", y.hope(1), 2);
        y.takes(0, -1);
        Check.due("hope(0) of nothing", y.hope(0), 0);
        Check.due("hope(1) of nothing", y.hope(1), 1);
        // Three FLOODS, each 1 SHORT, with odds of 1, 2 and 3 of a hundred.
        FloodLent z = Check.with("river weeks 4 more 0 back 0; village pond 99 water 0 face 0 seep 0;"
            + "flood 1 brings 1 odds 1; flood 2 brings 1 odds 2; flood 3 brings 1 odds 4;");
        for (int f = 0; f < 3; f++) {
            z.takes(f, 0);
        }
        Check.due("hope(0) of three", z.hope(0), -7);
        Check.due("hope(1) of three", z.hope(1), 100);
    }

    private static void wise() {
        FloodLent x = Check.with(DRY);
        Check.due("wise(0)", x.wise(0), 1);
        Check.due("wisest(0)", x.wisest(0), 42);
        Check.due("wisest(1)", x.wisest(1), 5);
        Check.due("wisest(2)", x.wisest(2), -2);
        Check.due("wisest(-1)", x.wisest(-1), -2);
        Check.due("wise(1)", x.wise(1), -2);
        Check.due("wise(-1)", x.wise(-1), -2);
        FloodLent y = Check.with(WET + "flood 0 brings 10 odds 0;");
        Check.due("wise(0) without odds: alike", y.wise(0), -1);
        Check.due("best() all the same", y.taker(0), 1);
    }

    /** What was reckoned is not kept beyond another more, PLAIN or IMAGE. */
    private static void forgets() {
        FloodLent x = Check.with(WET + FLOOD);
        x.image(0);
        Check.due("best()", x.best(), 9);
        x.more(100);
        Check.due("best() with as much again", x.best(), 0);
        Check.due("safe() with as much again", x.safe(), 2);
        x.restore(0);
        Check.due("best() as it was", x.best(), 9);
        Check.plain(x, WET + "flood 0 brings 5 odds 1;");
        Check.due("best() of another", x.best(), 0);
        x.restore(0);
        x.takes(0, 1);
        Check.due("hope(0)", x.hope(0), 9);
        Check.due("hope(1)", x.hope(1), 4);
        x.more(100);
        Check.due("hope(0) with as much again", x.hope(0), 3);
        Check.due("hope(1) with as much again", x.hope(1), 4);
    }

    private static void put(FloodLent x, int slot, int... numbers) {
        x.row(slot, 1, numbers.length);
        for (int i = 0; i < numbers.length; i++) {
            x.write(slot, i, numbers[i]);
        }
    }

    private static void marks() {
        FloodLent x = Check.with(DRY);
        // Behind WEEK 3 the second has 0, 1 or 1; behind WEEK 2 the first 0, 4 or 1; behind WEEK 1 the second 4, 6 or 19.
        put(x, 0, 1, 3, 1);
        Check.due("agree, two", x.agree(0), 2);
        Check.due("who, two", x.who(0, 0), -1);
        Check.due("sure, alike", x.sure(0, 1, 3), 1);
        Check.due("sure, also alike", x.sure(0, 0, 4), 0);
        Check.due("sure, unlike", x.sure(0, 1, 1), -1);
        Check.due("needed", x.needed(0), 0);
        put(x, 1, 1, 3, 1, 0, 2, 4);
        Check.due("agree, one", x.agree(1), 1);
        Check.due("who, one", x.who(1, 0), 0);
        Check.due("sure, one", x.sure(1, 1, 1), 6);
        Check.due("needed, the second", x.needed(1), 1);
        put(x, 2, 1, 3, 0);
        Check.due("agree, nobody", x.agree(2), 1);
        Check.due("who, nobody", x.who(2, 0), 9);
        put(x, 2, 1, 3, 0, 0, 2, 4, 1, 3, 0);
        Check.due("agree, none", x.agree(2), 0);
        Check.due("who, none", x.who(2, 0), -1);
        Check.due("sure, none", x.sure(2, 0, 4), -1);
        Check.due("needed: the same MARK twice", x.needed(2), 1);
        put(x, 2);
        Check.due("agree without MARKS", x.agree(2), 3);
        Check.due("needed without MARKS", x.needed(2), -1);
        Check.due("who without MARKS", x.who(2, 0), -1);
        put(x, 2, 0, 4, 0, 0, 3, 0);
        Check.due("agree by what all have", x.agree(2), 3);
        Check.due("needed by what all have", x.needed(2), -1);
        // MARKS are of all TAKERS, whoever takes now.
        x.takes(0, 1);
        Check.due("agree, one", x.agree(1), 1);
        Check.due("TAKERS stay", x.takes(0, 1), 1);
        x.more(0);
        Check.due("agree with nothing more", x.agree(0), 1);
        Check.due("who with nothing more", x.who(0, 0), 0);
    }

    private static void marksWrong() {
        FloodLent x = Check.with(DRY);
        Check.due("agree(1), nothing", x.agree(1), -6);
        Check.due("who(1, 0), nothing", x.who(1, 0), -6);
        Check.due("sure(1, 0, 0), nothing", x.sure(1, 0, 0), -6);
        Check.due("needed(1), nothing", x.needed(1), -6);
        Check.due("agree(4)", x.agree(4), -2);
        Check.due("agree(-1)", x.agree(-1), -2);
        Check.due("who(4, 0)", x.who(4, 0), -2);
        Check.due("sure(-1, 0, 0)", x.sure(-1, 0, 0), -2);
        Check.due("needed(4)", x.needed(4), -2);
        put(x, 0, 0, 0, 3);
        Check.due("a fine MARK", x.agree(0), 3);
        Check.due("who(0, 1)", x.who(0, 1), -2);
        Check.due("who(0, -1)", x.who(0, -1), -2);
        Check.due("sure(0, 2, 0)", x.sure(0, 2, 0), -2);
        Check.due("sure(0, -1, 0)", x.sure(0, -1, 0), -2);
        Check.due("sure(0, 0, 5)", x.sure(0, 0, 5), -2);
        Check.due("sure(0, 0, -1)", x.sure(0, 0, -1), -2);
        int[][] bad = {{2, 0, 3}, {-1, 0, 3}, {0, 5, 3}, {0, -1, 3}, {0, 0}, {0, 0, 3, 0}, {0, 0, 1, 2, 0, 3}};
        for (int[] row : bad) {
            put(x, 0, row);
            Check.due("agree, a bad row", x.agree(0), -2);
            Check.due("who, a bad row", x.who(0, 0), -2);
            Check.due("sure, a bad row", x.sure(0, 0, 0), -2);
            Check.due("needed, a bad row", x.needed(0), -2);
        }
        // Water is asked as it is told, also where no pond has as much.
        put(x, 0, 0, 0, -1);
        Check.due("agree, water below 0", x.agree(0), 0);
        put(x, 0, 0, 0, 31);
        Check.due("agree, water above the pond", x.agree(0), 0);
        // Numbers of eight bytes are asked whole.
        x.row(0, 3, 3);
        x.write(0, 2, (1L << 32) + 3);
        Check.due("agree, more than a number of four bytes", x.agree(0), 0);
        x.write(0, 2, 3);
        x.write(0, 0, 1L << 32);
        Check.due("agree, no such VILLAGE", x.agree(0), -2);
    }

    private static void noFloods() {
        FloodLent x = Check.with("river weeks 4 more 0 back 3; village pond 9 water 5 face 0 seep 1;"
            + "crop 0 drinks 1 brings 2 from 0 to 1;");
        Check.due("best()", x.best(), 4);
        Check.due("safe()", x.safe(), 1);
        Check.due("hope(0)", x.hope(0), 4);
        Check.due("hope(1)", x.hope(1), 1);
        Check.due("wisest(0)", x.wisest(0), 4);
        put(x, 0, 0, 1, 1);
        Check.due("agree", x.agree(0), 1);
        Check.due("sure", x.sure(0, 0, 0), 3);
        Check.due("who", x.who(0, 0), -2);
        FloodLent y = Check.with("river weeks 4 more 0 back 3;" + FLOOD + FLOOD + FLOOD);
        Check.due("safe() without VILLAGES", y.safe(), 1);
        Check.due("best() without VILLAGES", y.best(), 0);
        Check.due("wise(2) without VILLAGES", y.wise(2), -1);
    }
}
