import java.nio.charset.StandardCharsets;
import java.util.Random;

/** Runs of calls on FloodLent and on the Model: each answer must be the same. */
public final class ModelTest {
    private static final int RUNS = 600;
    private static final int CALLS = 120;

    private final Random random;
    private final FloodLent x = new FloodLent();
    private final Model m = new Model();
    private final String run;
    private int weeks = 4;
    private int villages = 0;
    private int floods = 0;

    private ModelTest(int seed) {
        random = new Random(seed);
        run = "run " + seed + ": ";
    }

    public static void main(String[] args) {
        for (int seed = 0; seed < RUNS; seed++) {
            ModelTest one = new ModelTest(seed);
            for (int i = 0; i < CALLS; i++) {
                one.call(i);
            }
        }
        Check.close("ModelTest");
    }

    private int any(int least, int most) {
        return least + random.nextInt(most - least + 1);
    }

    /** Mostly a number of things that are there, now and then another one. */
    private int one(int n) {
        int dice = random.nextInt(40);
        if (dice == 0) {
            return -1;
        }
        if (dice == 1) {
            return n;
        }
        if (dice == 2) {
            return random.nextBoolean() ? Integer.MAX_VALUE : Integer.MIN_VALUE;
        }
        return n < 1 ? 0 : random.nextInt(n);
    }

    // ---- texts

    private String text() {
        switch (random.nextInt(6)) {
            case 0: return text(true, false);
            case 1: return text(true, true);
            default: return text(false, false);
        }
    }

    /** In a mild PLAIN little is lost or lent; in a waiting one crops need FLOODS ahead of what seeps down to them. */
    private String text(boolean mild, boolean waiting) {
        StringBuilder s = new StringBuilder();
        boolean wide = random.nextInt(8) == 0;
        int most = wide ? 400 : random.nextInt(3) == 0 ? 120 : 40;
        weeks = random.nextInt(6) == 0 ? any(4, 30) : any(4, 9);
        villages = random.nextInt(10) == 0 ? any(0, 6) : any(1, 4);
        floods = any(waiting ? 1 : 0, 3);
        s.append("river weeks ").append(weeks).append(" more ");
        s.append(mild ? any(0, 5) : random.nextInt(4) == 0 ? any(0, 100) : any(0, 30));
        s.append(" back ").append(random.nextInt(3) == 0 && !waiting ? any(0, weeks - 1) : weeks - 1 - any(0, 2)).append(";");
        for (int v = 0; v < villages; v++) {
            int pond = any(mild ? most / 2 : 0, most);
            int water = waiting ? v == 0 ? pond : any(0, Math.min(pond, 5)) : any(0, pond);
            int seep = waiting ? v + 1 < villages ? any(5, 12) : 0 : any(0, mild ? 1 : random.nextBoolean() ? 3 : 12);
            s.append("village pond ").append(pond).append(" water ").append(water).append(" face ")
                .append(any(0, 40)).append(" seep ").append(seep).append(";\n");
        }
        for (int f = 0; f < floods; f++) {
            s.append("flood ").append(any(0, waiting ? 1 : weeks - 1)).append(" brings ").append(any(0, mild ? 12 : most))
                .append(" odds ").append(random.nextInt(4) == 0 ? 100 * any(0, 1) : any(0, 100)).append(";");
        }
        for (int c = any(0, 5); c > 0 && villages > 0; c--) {
            int from = any(0, waiting ? 1 : weeks - 1);
            s.append("crop ").append(any(0, villages - 1)).append(" drinks ").append(any(1, 9)).append(" brings ");
            s.append(any(0, 20)).append(" from ").append(from).append(" to ").append(waiting ? from : any(from, weeks - 1)).append("; ");
        }
        for (int l = waiting ? 0 : mild ? any(0, 2) : any(0, 8); l > 0 && villages > 1; l--) {
            int lender = any(0, villages - 1);
            int debtor = (lender + any(1, villages - 1)) % villages;
            int on = any(0, weeks - 2);
            s.append("loan ").append(lender).append(" to ").append(debtor).append(" of ").append(any(1, mild ? 9 : most))
                .append(" on ").append(on).append(" till ").append(any(on + 1, weeks - 1)).append(";");
        }
        for (int i = mild ? 0 : any(0, 4); i > 0; i--) {
            s.append("sun ").append(any(0, weeks - 1)).append(" is ").append(any(0, 99)).append(";");
        }
        for (int i = any(0, 3); i > 0 && villages > 0; i--) {
            s.append("canal ").append(any(0, villages - 1)).append(" costs ").append(any(0, 300)).append(";");
        }
        return s.toString();
    }

    /** A text with some bytes, words or numbers that were not meant. */
    private String spoiled(String text) {
        StringBuilder s = new StringBuilder(text);
        int at = random.nextInt(s.length());
        switch (random.nextInt(7)) {
            case 0 -> s.setLength(at);
            case 1 -> s.setCharAt(at, "; \nA0z-9\u00e9".charAt(random.nextInt(9)));
            case 2 -> s.insert(at, random.nextInt(3) == 0 ? "99999999999999999999" : any(0, 99));
            case 3 -> s.deleteCharAt(at);
            case 4 -> s.insert(at, s.substring(random.nextInt(at + 1), at));
            case 5 -> {
                for (int i = 0; i < any(1, 9); i++) {
                    s.append("village pond 5 water 1 face 1 seep 1;");
                }
            }
            default -> {
                String[] more = {"flood 0 brings 1 odds 1;", "crop 0 drinks 1 brings 1 from 0 to 1;", "loan 0 to 1 of 1 on 0 till 1;",
                    "river weeks 4 more 0 back 0;", "  \n", "x"};
                String one = more[random.nextInt(more.length)];
                for (int i = 0; i < any(1, 9); i++) {
                    s.append(one);
                }
            }
        }
        return s.toString();
    }

    private void tell(String text) {
        byte[] bytes = text.getBytes(StandardCharsets.ISO_8859_1);
        int[] fives = new int[(bytes.length + 19) / 20 * 5];
        for (int i = 0; i < fives.length * 4; i++) {
            fives[i / 4] = fives[i / 4] << 8 | (i < bytes.length ? bytes[i] & 255 : 0);
        }
        for (int i = 0; i < fives.length; i += 5) {
            due("feed()", x.feed(fives[i], fives[i + 1], fives[i + 2], fives[i + 3], fives[i + 4]),
                m.feed(fives[i], fives[i + 1], fives[i + 2], fives[i + 3], fives[i + 4]));
        }
        due("end(" + bytes.length + ")", x.end(bytes.length), m.end(bytes.length));
        due("plain() of " + text, x.plain(), m.plain());
        due("fault(0) of " + text, x.fault(0), m.fault(0));
        due("fault(1) of " + text, x.fault(1), m.fault(1));
    }

    private void due(String call, long got, long want) {
        if (got != want) {
            Check.due(run + call, got, want);
        } else {
            Check.due("", 0, 0);
        }
    }

    // ---- calls

    private void call(int i) {
        if (i == 3 || random.nextInt(60) == 0) {
            tell(random.nextInt(6) == 0 ? spoiled(text()) : text());
            for (int k = 0; k < 10; k++) {
                due("count(" + k + ")", x.count(k), m.count(k));
            }
        }
        for (int k = 0; k < 3; k++) {
            switch (random.nextInt(9)) {
                case 0 -> change();
                case 1, 2, 3 -> askYear();
                case 4, 5 -> askDebts();
                case 6 -> askMarks();
                case 7 -> askRest();
                default -> askTakers();
            }
        }
    }

    private void change() {
        int k = one(3);
        int f = one(floods);
        int v = random.nextInt(5) == 0 ? -1 : one(villages);
        int n = one(101);
        switch (random.nextInt(7)) {
            case 0 -> due("image(" + k + ")", x.image(k), m.image(k));
            case 1 -> due("restore(" + k + ")", x.restore(k), m.restore(k));
            case 2 -> due("more(" + n + ")", x.more(n), m.more(n));
            case 3 -> due("end(" + n + ")", x.end(n), m.end(n));
            default -> due("takes(" + f + ", " + v + ")", x.takes(f, v), m.takes(f, v));
        }
    }

    private void askYear() {
        int v = one(villages);
        int w = one(weeks);
        int f = one(floods);
        int l = one(8);
        int what = one(5);
        int sum = one(9);
        switch (random.nextInt(9)) {
            case 0 -> due("village(" + v + ", " + what + ")", x.village(v, what), m.village(v, what));
            case 1 -> due("water(" + v + ", " + w + ")", x.water(v, w), m.water(v, w));
            case 2 -> due("flood(" + f + ", " + what + ")", x.flood(f, what), m.flood(f, what));
            case 3 -> due("loan(" + l + ", " + what + ")", x.loan(l, what), m.loan(l, what));
            case 4 -> due("crop(" + l + ", " + what + ")", x.crop(l, what), m.crop(l, what));
            case 5 -> due("sum(" + sum + ")", x.sum(sum), m.sum(sum));
            case 6 -> due("first()", x.first(), m.first());
            case 7 -> due("count(" + sum + ")", x.count(sum), m.count(sum));
            default -> due("fault(" + what + ")", x.fault(what), m.fault(what));
        }
    }

    private void askDebts() {
        int v = one(villages);
        int to = one(villages);
        int law = one(3);
        int what = one(2);
        int i = one(4);
        switch (random.nextInt(7)) {
            case 0 -> due("owes(" + v + ", " + to + ")", x.owes(v, to), m.owes(v, to));
            case 1 -> due("left(" + v + ", " + to + ")", x.left(v, to), m.left(v, to));
            case 2 -> due("pays(" + law + ", " + v + ", " + to + ")", x.pays(law, v, to), m.pays(law, v, to));
            case 3 -> due("struck(" + law + ", " + what + ")", x.struck(law, what), m.struck(law, what));
            case 4 -> due("law()", x.law(), m.law());
            case 5 -> due("rings(" + what + ")", x.rings(what), m.rings(what));
            default -> due("ring(" + i + ")", x.ring(i), m.ring(i));
        }
    }

    private void askMarks() {
        int slot = one(4);
        int f = one(floods);
        int v = one(villages);
        int w = one(weeks);
        if (random.nextInt(3) > 0) {
            mark(slot);
        }
        switch (random.nextInt(4)) {
            case 0 -> due("agree(" + slot + ")", x.agree(slot), m.agree(slot));
            case 1 -> due("who(" + slot + ", " + f + ")", x.who(slot, f), m.who(slot, f));
            case 2 -> due("sure(" + slot + ", " + v + ", " + w + ")", x.sure(slot, v, w), m.sure(slot, v, w));
            default -> due("needed(" + slot + ")", x.needed(slot), m.needed(slot));
        }
    }

    private void mark(int slot) {
        int width = one(4);
        int marks = any(0, 3);
        int n = random.nextInt(12) == 0 ? one(62) : 3 * marks;
        due("row(" + slot + ", " + width + ", " + n + ")", x.row(slot, width, n), m.row(slot, width, n));
        for (int i = 0; i < n && i < 9; i++) {
            int place = random.nextInt(3) == 0 ? one(n) : i;
            long v = i % 3 == 0 ? one(villages) : one(weeks);
            if (i % 3 == 2) {
                // Mostly what is so by the TAKERS that there are, so that some AGREE.
                v = m.water(one(villages), one(weeks));
            }
            if (random.nextInt(9) == 0) {
                v = random.nextLong() << random.nextInt(64);
            }
            due("write(" + slot + ", " + place + ", " + v + ")", x.write(slot, place, v), m.write(slot, place, v));
        }
        if (random.nextInt(2) == 0) {
            rightMarks(slot, n);
        }
        int i = one(9);
        int to = one(4);
        int k = one(9);
        int many = one(6);
        due("paste(" + slot + ", " + i + ", " + to + ", " + k + ", " + many + ")", x.paste(slot, i, to, k, many),
            m.paste(slot, i, to, k, many));
    }

    /** MARKS that are so by the TAKERS that there are, but for one perhaps. */
    private void rightMarks(int slot, int n) {
        for (int i = 0; i + 2 < n && i < 9; i += 3) {
            int v = villages > 0 ? any(0, villages - 1) : 0;
            int w = any(0, weeks - 1);
            int level = Math.max(0, m.water(v, w)) + (random.nextInt(6) == 0 ? 1 : 0);
            due("write()", x.write(slot, i, v), m.write(slot, i, v));
            due("write()", x.write(slot, i + 1, w), m.write(slot, i + 1, w));
            due("write()", x.write(slot, i + 2, level), m.write(slot, i + 2, level));
        }
    }

    private void askRest() {
        int v = one(villages);
        int seed = random.nextInt(3) == 0 ? any(1_999_999_990, 2_000_000_001) : one(2_000_000_000);
        int what = one(3);
        int n = one(21);
        switch (random.nextInt(6)) {
            case 0 -> due("fair(" + v + ")", x.fair(v), m.fair(v));
            case 1 -> due("melons(" + v + ")", x.melons(v), m.melons(v));
            case 2 -> due("share(" + v + ")", x.share(v), m.share(v));
            case 3 -> due("enough(" + v + ")", x.enough(v), m.enough(v));
            case 4 -> due("year(" + seed + ", " + what + ")", x.year(seed, what), m.year(seed, what));
            default -> due("years(" + seed + ", " + n + ")", x.years(seed, n), m.years(seed, n));
        }
    }

    private void askTakers() {
        int f = one(floods);
        int what = one(2);
        switch (random.nextInt(6)) {
            case 0 -> due("best()", x.best(), m.best());
            case 1 -> due("taker(" + f + ")", x.taker(f), m.taker(f));
            case 2 -> due("safe()", x.safe(), m.safe());
            case 3 -> due("wise(" + f + ")", x.wise(f), m.wise(f));
            case 4 -> due("wisest(" + what + ")", x.wisest(what), m.wisest(what));
            default -> due("hope(" + what + ")", x.hope(what), m.hope(what));
        }
    }
}
