import java.util.Random;

/**
 * PLAINS that have as much of all as there may be (30 weeks, 6 villages, 8 crops, 3 floods, 8 loans), and such as
 * have the least: each call for each number and those beyond, held against the Model.
 */
public final class FullTest {
    private static final int[] BEYOND = {Integer.MIN_VALUE, -2, -1, 30, 31, 100, Integer.MAX_VALUE};

    private final FloodLent x = new FloodLent();
    private final Model m = new Model();
    private final String run;

    private FullTest(String run, String text, int... takers) {
        this.run = run;
        for (int i = 0; i < text.length(); i += 20) {
            int[] five = new int[5];
            for (int k = 0; k < 20; k++) {
                five[k / 4] = five[k / 4] << 8 | (i + k < text.length() ? text.charAt(i + k) : ' ');
            }
            same("feed()", x.feed(five[0], five[1], five[2], five[3], five[4]), m.feed(five[0], five[1], five[2], five[3], five[4]));
        }
        Check.due(run + "plain() has no FAULT", x.plain() == m.plain() && x.fault(0) == 0 ? 1 : 0, 1);
        for (int f = 0; f < takers.length; f++) {
            same("takes()", x.takes(f, takers[f]), m.takes(f, takers[f]));
        }
    }

    public static void main(String[] args) {
        Random random = new Random(7);
        for (int i = 0; i < 4; i++) {
            new FullTest("full " + i + ": ", full(random, i), 5, i - 1, 5 - i).askAll();
        }
        new FullTest("least: ", Tell.river(4, 0, 0)).askAll();
        new FullTest("one: ", Tell.river(4, 0, 3) + Tell.village(0, 0) + Tell.flood(3, 0, 0), 0).askAll();
        new FullTest("none: ", "").askAll();
        Check.close("FullTest");
    }

    private static String full(Random r, int kind) {
        StringBuilder s = new StringBuilder(Tell.river(30, kind == 0 ? 100 : r.nextInt(20), 29 - kind));
        for (int v = 0; v < 6; v++) {
            int pond = kind == 0 ? 9999 : 40 + r.nextInt(60);
            s.append(Tell.village(pond, r.nextInt(pond + 1), kind == 0 ? 99 : r.nextInt(30), kind == 0 ? 99 : r.nextInt(4)));
            s.append(Tell.canal(v, r.nextInt(10000)));
        }
        for (int c = 0; c < 8; c++) {
            int from = r.nextInt(30);
            s.append(Tell.crop(c < 6 ? c : r.nextInt(6), 1 + r.nextInt(kind == 0 ? 99 : 5), r.nextInt(100), from, from + r.nextInt(30 - from)));
        }
        for (int l = 0; l < 8; l++) {
            int lender = r.nextInt(6);
            int on = r.nextInt(29);
            s.append(Tell.loan(lender, (lender + 1 + r.nextInt(5)) % 6, kind == 0 ? 9999 : 1 + r.nextInt(30), on, on + 1 + r.nextInt(29 - on)));
        }
        for (int f = 0; f < 3; f++) {
            s.append(Tell.flood(r.nextInt(30), kind == 0 ? 9999 : r.nextInt(60), r.nextInt(101)));
        }
        return s.append(Tell.sun(29, 99)).append(Tell.sun(r.nextInt(30), 50)).toString();
    }

    private void same(String call, long got, long want) {
        if (got != want) {
            Check.due(run + call, got, want);
        } else {
            Check.due("", 0, 0);
        }
    }

    /** The numbers 0 .. n and those beyond them all. */
    private static int[] upTo(int n) {
        int[] all = new int[n + 1 + BEYOND.length];
        for (int i = 0; i <= n; i++) {
            all[i] = i;
        }
        System.arraycopy(BEYOND, 0, all, n + 1, BEYOND.length);
        return all;
    }

    private void askAll() {
        same("first()", x.first(), m.first());
        same("best()", x.best(), m.best());
        same("safe()", x.safe(), m.safe());
        same("law()", x.law(), m.law());
        for (int a : upTo(10)) {
            same("count(" + a + ")", x.count(a), m.count(a));
            same("fault(" + a + ")", x.fault(a), m.fault(a));
            same("sum(" + a + ")", x.sum(a), m.sum(a));
            same("hope(" + a + ")", x.hope(a), m.hope(a));
            same("wisest(" + a + ")", x.wisest(a), m.wisest(a));
            same("rings(" + a + ")", x.rings(a), m.rings(a));
            same("ring(" + a + ")", x.ring(a), m.ring(a));
            same("taker(" + a + ")", x.taker(a), m.taker(a));
            same("wise(" + a + ")", x.wise(a), m.wise(a));
            same("fair(" + a + ")", x.fair(a), m.fair(a));
            same("melons(" + a + ")", x.melons(a), m.melons(a));
            same("share(" + a + ")", x.share(a), m.share(a));
            same("enough(" + a + ")", x.enough(a), m.enough(a));
            for (int b : upTo(10)) {
                askTwo(a, b);
            }
        }
        askMarks();
        for (int n : upTo(21)) {
            same("years(77, " + n + ")", x.years(77, n), m.years(77, n));
        }
    }

    private void askTwo(int a, int b) {
        same("village(" + a + ", " + b + ")", x.village(a, b), m.village(a, b));
        same("flood(" + a + ", " + b + ")", x.flood(a, b), m.flood(a, b));
        same("loan(" + a + ", " + b + ")", x.loan(a, b), m.loan(a, b));
        same("crop(" + a + ", " + b + ")", x.crop(a, b), m.crop(a, b));
        same("owes(" + a + ", " + b + ")", x.owes(a, b), m.owes(a, b));
        same("left(" + a + ", " + b + ")", x.left(a, b), m.left(a, b));
        same("struck(" + a + ", " + b + ")", x.struck(a, b), m.struck(a, b));
        same("year(" + a + ", " + b + ")", x.year(a, b), m.year(a, b));
        for (int law : new int[] {-1, 0, 1, 2, 3}) {
            same("pays(" + law + ", " + a + ", " + b + ")", x.pays(law, a, b), m.pays(law, a, b));
        }
        for (int week : new int[] {b, 28, 29}) {
            same("water(" + a + ", " + week + ")", x.water(a, week), m.water(a, week));
        }
    }

    /** Twenty MARKS, as they are by the TAKERS that there are. */
    private void askMarks() {
        same("row()", x.row(3, 2, 60), m.row(3, 2, 60));
        for (int i = 0; i < 20; i++) {
            int v = i % 6;
            int week = 29 - i;
            int level = m.water(v, week);
            same("write()", x.write(3, 3 * i, v), m.write(3, 3 * i, v));
            same("write()", x.write(3, 3 * i + 1, week), m.write(3, 3 * i + 1, week));
            same("write()", x.write(3, 3 * i + 2, level), m.write(3, 3 * i + 2, level));
        }
        for (int round = 0; round < 2; round++) {
            same("agree(3)", x.agree(3), m.agree(3));
            same("needed(3)", x.needed(3), m.needed(3));
            for (int f : new int[] {0, 1, 2, 3}) {
                same("who(3, " + f + ")", x.who(3, f), m.who(3, f));
            }
            for (int v : new int[] {0, 5, 6}) {
                same("sure(3, " + v + ", 29)", x.sure(3, v, 29), m.sure(3, v, 29));
                same("sure(3, " + v + ", 30)", x.sure(3, v, 30), m.sure(3, v, 30));
            }
            same("write()", x.write(3, 59, 12345), m.write(3, 59, 12345));
        }
    }
}
