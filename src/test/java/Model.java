import java.math.BigInteger;
import java.util.ArrayList;
import java.util.Arrays;
import java.util.Collections;
import java.util.HashMap;
import java.util.LinkedHashMap;
import java.util.List;
import java.util.Map;
import java.util.TreeMap;
import java.util.regex.Matcher;
import java.util.regex.Pattern;

/**
 * The document once more, written apart from FloodLent and as the words stand, with no eye to speed:
 * ModelTest holds both against each other.
 */
final class Model {
    /** A PLAIN's text read: things by name. */
    static final class Plain {
        int lines;
        int weeks;
        int more;
        int back;
        List<Map<String, Integer>> villages = new ArrayList<>();
        List<Map<String, Integer>> crops = new ArrayList<>();
        List<Map<String, Integer>> floods = new ArrayList<>();
        List<Map<String, Integer>> loans = new ArrayList<>();
        Map<Integer, Integer> suns = new TreeMap<>();
        Map<Integer, Integer> canals = new TreeMap<>();
        List<Integer> takers = new ArrayList<>();

        Plain copy() {
            Plain p = new Plain();
            p.lines = lines;
            p.weeks = weeks;
            p.more = more;
            p.back = back;
            p.villages = villages;
            p.crops = crops;
            p.floods = floods;
            p.loans = loans;
            p.suns = suns;
            p.canals = canals;
            p.takers = new ArrayList<>(takers);
            return p;
        }
    }

    static final class Fault extends RuntimeException {
        private static final long serialVersionUID = 1L;
        final int number;
        final int place;

        Fault(int number, int place) {
            super(number + " at " + place, null, false, false);
            this.number = number;
            this.place = place;
        }
    }

    private static final Pattern TOKEN = Pattern.compile("[ \\n]*(?:([a-z]+)|([0-9]+)|(;))");

    /** Reads a text by its TOKENS. */
    static final class Text {
        final String text;
        int at = 0;

        Text(String text) {
            this.text = text;
        }

        private int place() {
            int i = at;
            while (i < text.length() && (text.charAt(i) == ' ' || text.charAt(i) == '\n')) {
                i++;
            }
            return i;
        }

        boolean ended() {
            return place() == text.length();
        }

        private Matcher token() {
            Matcher m = TOKEN.matcher(text);
            m.region(at, text.length());
            return m.lookingAt() ? m : null;
        }

        String word() {
            Matcher m = token();
            if (m == null || m.group(1) == null) {
                throw new Fault(1, place());
            }
            at = m.end();
            return m.group(1);
        }

        Text word(String due) {
            int place = place();
            if (!word().equals(due)) {
                throw new Fault(1, place);
            }
            return this;
        }

        int number(int least, int most) {
            return number(least, most, -1);
        }

        int number(int least, int most, int unlike) {
            int place = place();
            Matcher m = token();
            if (m == null || m.group(2) == null) {
                throw new Fault(1, place);
            }
            BigInteger n = new BigInteger(m.group(2));
            if (n.compareTo(BigInteger.valueOf(least)) < 0 || n.compareTo(BigInteger.valueOf(most)) > 0
                || n.intValue() == unlike) {
                throw new Fault(2, place);
            }
            at = m.end();
            return n.intValue();
        }

        void sign() {
            Matcher m = token();
            if (m == null || m.group(3) == null) {
                throw new Fault(1, place());
            }
            at = m.end();
        }
    }

    static Plain read(String text) {
        Plain p = new Plain();
        Text t = new Text(text);
        while (!t.ended()) {
            int place = t.place();
            String word = t.word();
            if (word.equals("river") != (p.lines == 0)) {
                throw new Fault(1, place);
            }
            Map<String, Integer> m = new HashMap<>();
            switch (word) {
                case "river" -> {
                    p.weeks = t.word("weeks").number(4, 30);
                    p.more = t.word("more").number(0, 100);
                    p.back = t.word("back").number(0, p.weeks - 1);
                }
                case "village" -> {
                    add(p.villages, 6, m, place);
                    m.put("pond", t.word("pond").number(0, 9999));
                    m.put("water", t.word("water").number(0, m.get("pond")));
                    m.put("face", t.word("face").number(0, 99));
                    m.put("seep", t.word("seep").number(0, 99));
                }
                case "crop" -> {
                    add(p.crops, 8, m, place);
                    m.put("village", t.number(0, p.villages.size() - 1));
                    m.put("drinks", t.word("drinks").number(1, 99));
                    m.put("brings", t.word("brings").number(0, 99));
                    m.put("from", t.word("from").number(0, p.weeks - 1));
                    m.put("to", t.word("to").number(m.get("from"), p.weeks - 1));
                }
                case "sun" -> {
                    int week = t.number(0, p.weeks - 1);
                    p.suns.put(week, t.word("is").number(0, 99));
                }
                case "flood" -> {
                    add(p.floods, 3, m, place);
                    p.takers.add(-1);
                    m.put("week", t.number(0, p.weeks - 1));
                    m.put("brings", t.word("brings").number(0, 9999));
                    m.put("odds", t.word("odds").number(0, 100));
                }
                case "loan" -> {
                    add(p.loans, 8, m, place);
                    m.put("lender", t.number(0, p.villages.size() - 1));
                    m.put("debtor", t.word("to").number(0, p.villages.size() - 1, m.get("lender")));
                    m.put("amount", t.word("of").number(1, 9999));
                    m.put("on", t.word("on").number(0, p.weeks - 1));
                    m.put("till", t.word("till").number(m.get("on") + 1, p.weeks - 1));
                }
                case "canal" -> {
                    int village = t.number(0, p.villages.size() - 1);
                    p.canals.put(village, t.word("costs").number(0, 9999));
                }
                default -> throw new Fault(1, place);
            }
            t.sign();
            p.lines++;
        }
        return p;
    }

    private static void add(List<Map<String, Integer>> list, int most, Map<String, Integer> m, int place) {
        if (list.size() == most) {
            throw new Fault(3, place);
        }
        list.add(m);
    }

    // ---- a YEAR

    /** All that comes of a YEAR; floods and loans as {taken or lent, owed, paid}. */
    static final class Year {
        int[] water;
        int[][] behind;
        int[][] floods;
        int[][] loans;
        int[] brought;
        List<List<Integer>> dryWeeks = new ArrayList<>();
        int sky;
        int sea;
        int drunk;
        int first = -1;

        int broughtInAll() {
            return Arrays.stream(brought).sum();
        }

        int shortOf(int[][] things) {
            return Arrays.stream(things).mapToInt(t -> t[1] - t[2]).sum();
        }

        int shortInAll() {
            return shortOf(floods) + shortOf(loans);
        }
    }

    static Year go(Plain p, List<Integer> takers, int more, int idle, int[] atFirst) {
        Year y = new Year();
        int n = p.villages.size();
        y.water = new int[n];
        y.behind = new int[n][p.weeks];
        y.floods = new int[p.floods.size()][3];
        y.loans = new int[p.loans.size()][3];
        y.brought = new int[p.crops.size()];
        for (int i = 0; i < p.crops.size(); i++) {
            y.dryWeeks.add(new ArrayList<>());
        }
        for (int v = 0; v < n; v++) {
            y.water[v] = atFirst == null ? p.villages.get(v).get("water") : atFirst[v];
        }
        for (int week = 0; week < p.weeks; week++) {
            boolean trouble = goWeek(p, y, week, takers, more, idle);
            if (trouble && y.first < 0) {
                y.first = week;
            }
            for (int v = 0; v < n; v++) {
                y.behind[v][week] = y.water[v];
            }
        }
        return y;
    }

    private static int owed(int n, int more) {
        return n + (int) Math.ceil(n * (double) more / 100 - 1e-9);
    }

    private static int least(int... numbers) {
        return Arrays.stream(numbers).min().getAsInt();
    }

    private static boolean goWeek(Plain p, Year y, int week, List<Integer> takers, int more, int idle) {
        boolean trouble = false;
        int[] w = y.water;
        int n = w.length;
        for (int i = 0; i < y.floods.length; i++) {
            int v = takers.get(i);
            if (p.floods.get(i).get("week") == week && v >= 0) {
                int taken = least(p.floods.get(i).get("brings"), p.villages.get(v).get("pond") - w[v]);
                w[v] += taken;
                y.floods[i] = new int[] {taken, owed(taken, more), 0};
            }
        }
        for (int i = 0; i < y.loans.length; i++) {
            Map<String, Integer> l = p.loans.get(i);
            if (l.get("on") == week && l.get("lender") != idle) {
                int d = l.get("debtor");
                int lent = least(l.get("amount"), w[l.get("lender")], p.villages.get(d).get("pond") - w[d]);
                w[d] += lent;
                w[l.get("lender")] -= lent;
                y.loans[i] = new int[] {lent, owed(lent, more), 0};
            }
        }
        for (int i = 0; i < y.loans.length; i++) {
            Map<String, Integer> l = p.loans.get(i);
            if (l.get("till") == week) {
                int c = l.get("lender");
                int paid = least(y.loans[i][1], w[l.get("debtor")], p.villages.get(c).get("pond") - w[c]);
                w[c] += paid;
                w[l.get("debtor")] -= paid;
                y.loans[i][2] = paid;
                trouble |= paid != y.loans[i][1];
            }
        }
        for (int i = 0; i < y.floods.length && week == p.back; i++) {
            if (y.floods[i][0] > 0) {
                int paid = least(y.floods[i][1], w[takers.get(i)]);
                w[takers.get(i)] -= paid;
                y.floods[i][2] = paid;
                trouble |= paid != y.floods[i][1];
            }
        }
        for (int i = 0; i < y.brought.length; i++) {
            Map<String, Integer> c = p.crops.get(i);
            if (c.get("from") > week || c.get("to") < week) {
                continue;
            }
            if (w[c.get("village")] < c.get("drinks")) {
                y.dryWeeks.get(i).add(week);
                trouble = true;
            } else {
                w[c.get("village")] -= c.get("drinks");
                y.drunk += c.get("drinks");
                y.brought[i] += c.get("brings");
            }
        }
        for (int v = 0; v < n; v++) {
            int drinks = least(w[v], p.villages.get(v).get("face") * p.suns.getOrDefault(week, 0) / 100);
            w[v] -= drinks;
            y.sky += drinks;
        }
        for (int v = n - 1; v >= 0; v--) {
            int lost = least(w[v], p.villages.get(v).get("seep"));
            w[v] -= lost;
            if (v + 1 < n) {
                int to = least(lost, p.villages.get(v + 1).get("pond") - w[v + 1]);
                w[v + 1] += to;
                lost -= to;
            }
            y.sea += lost;
        }
        return trouble;
    }

    // ---- the object

    private byte[] tape = new byte[0];
    private Plain now = new Plain();
    private int fault = 0;
    private int place = -1;
    private final Plain[] images = new Plain[3];
    private final long[][] rows = new long[4][];
    private final int[] widths = new int[4];

    private boolean none() {
        return now.lines == 0;
    }

    private boolean isVillage(int v) {
        return v >= 0 && v < now.villages.size();
    }

    private boolean isFlood(int f) {
        return f >= 0 && f < now.floods.size();
    }

    private Year year() {
        return go(now, now.takers, now.more, -1, null);
    }

    int feed(int a, int b, int c, int d, int e) {
        if (tape.length + 20 > 1600) {
            return -1;
        }
        byte[] longer = Arrays.copyOf(tape, tape.length + 20);
        java.nio.ByteBuffer.wrap(longer, tape.length, 20).putInt(a).putInt(b).putInt(c).putInt(d).putInt(e);
        tape = longer;
        return tape.length;
    }

    int end(int n) {
        if (n < 0 || tape.length < n) {
            return -1;
        }
        tape = Arrays.copyOf(tape, n);
        return n;
    }

    int plain() {
        String text = new String(tape, java.nio.charset.StandardCharsets.ISO_8859_1);
        tape = new byte[0];
        try {
            now = read(text);
            fault = 0;
            place = -1;
            return now.lines;
        } catch (Fault f) {
            fault = f.number;
            place = f.place;
            return -4;
        }
    }

    int fault(int what) {
        return what == 0 ? fault : what == 1 ? place : -1;
    }

    int village(int v, int what) {
        if (!isVillage(v) || what < 0 || what > 4) {
            return -2;
        }
        if (what == 4) {
            return now.canals.getOrDefault(v, 0);
        }
        return now.villages.get(v).get(List.of("pond", "water", "face", "seep").get(what));
    }

    int takes(int f, int v) {
        return isFlood(f) && (v == -1 || isVillage(v)) ? now.takers.set(f, v) : -2;
    }

    int water(int v, int week) {
        return isVillage(v) && week >= 0 && week < now.weeks ? year().behind[v][week] : -2;
    }

    private static int told(int[][] things, int i, int what) {
        if (i < 0 || i >= things.length || what < 0 || what > 3) {
            return -2;
        }
        return what == 3 ? things[i][1] - things[i][2] : things[i][what];
    }

    int flood(int f, int what) {
        return told(year().floods, f, what);
    }

    int loan(int l, int what) {
        return told(year().loans, l, what);
    }

    int crop(int c, int what) {
        if (c < 0 || c >= now.crops.size() || what < 0 || what > 2) {
            return -2;
        }
        Year y = year();
        List<Integer> dry = y.dryWeeks.get(c);
        return what == 0 ? y.brought[c] : what == 1 ? dry.size() : dry.isEmpty() ? -1 : dry.get(0);
    }

    int sum(int what) {
        if (none() || what < 0 || what > 8) {
            return -2;
        }
        Year y = year();
        int taken = Arrays.stream(y.floods).mapToInt(f -> f[0]).sum();
        int paid = Arrays.stream(y.floods).mapToInt(f -> f[2]).sum();
        int[] all = {y.broughtInAll(), y.shortOf(y.floods), y.shortOf(y.loans), y.sky, y.sea, y.drunk, taken, paid,
            Arrays.stream(y.water).sum()};
        return all[what];
    }

    int first() {
        return none() ? -2 : year().first;
    }

    // ---- all TAKERS, in their order

    private List<List<Integer>> allTakers() {
        List<List<Integer>> all = new ArrayList<>();
        all.add(new ArrayList<>());
        for (int f = 0; f < now.floods.size(); f++) {
            List<List<Integer>> longer = new ArrayList<>();
            for (List<Integer> row : all) {
                for (int v = -1; v < now.villages.size(); v++) {
                    List<Integer> one = new ArrayList<>(row);
                    one.add(v);
                    longer.add(one);
                }
            }
            all = longer;
        }
        return all;
    }

    private Year by(List<Integer> takers) {
        return go(now, takers, now.more, -1, null);
    }

    private List<Integer> bestTakers() {
        List<Integer> best = null;
        for (List<Integer> takers : allTakers()) {
            Year y = by(takers);
            if (y.shortInAll() == 0 && (best == null || y.broughtInAll() > by(best).broughtInAll())) {
                best = takers;
            }
        }
        return best;
    }

    int best() {
        if (none()) {
            return -2;
        }
        List<Integer> best = bestTakers();
        return best == null ? -1 : by(best).broughtInAll();
    }

    int taker(int f) {
        if (!isFlood(f)) {
            return -2;
        }
        List<Integer> best = bestTakers();
        return best == null ? -1 : best.get(f);
    }

    int safe() {
        return none() ? -2 : (int) allTakers().stream().filter(t -> by(t).shortInAll() == 0).count();
    }

    private static List<Integer> those(List<Integer> takers, int come) {
        List<Integer> left = new ArrayList<>(takers);
        for (int f = 0; f < left.size(); f++) {
            if ((come & 1 << f) == 0) {
                left.set(f, -1);
            }
        }
        return left;
    }

    /** Above and below, in lowest terms. */
    private BigInteger[] hope(List<Integer> takers) {
        BigInteger above = BigInteger.ZERO;
        for (int come = 0; come < 1 << takers.size(); come++) {
            BigInteger chance = BigInteger.ONE;
            for (int f = 0; f < takers.size(); f++) {
                int odds = now.floods.get(f).get("odds");
                chance = chance.multiply(BigInteger.valueOf((come & 1 << f) != 0 ? odds : 100 - odds));
            }
            Year y = by(those(takers, come));
            above = above.add(chance.multiply(BigInteger.valueOf(y.broughtInAll() - y.shortInAll())));
        }
        BigInteger below = BigInteger.valueOf(100).pow(takers.size());
        BigInteger common = above.gcd(below);
        return new BigInteger[] {above.divide(common), below.divide(common)};
    }

    private List<Integer> wiseTakers() {
        List<Integer> wise = null;
        BigInteger[] most = null;
        for (List<Integer> takers : allTakers()) {
            BigInteger[] hope = hope(takers);
            if (wise == null || hope[0].multiply(most[1]).compareTo(most[0].multiply(hope[1])) > 0) {
                wise = takers;
                most = hope;
            }
        }
        return wise;
    }

    long hope(int what) {
        return none() || what < 0 || what > 1 ? -2 : hope(now.takers)[what].longValueExact();
    }

    int wise(int f) {
        return isFlood(f) ? wiseTakers().get(f) : -2;
    }

    long wisest(int what) {
        return none() || what < 0 || what > 1 ? -2 : hope(wiseTakers())[what].longValueExact();
    }

    // ---- MARKS

    private int marksWrong(int slot, boolean rest) {
        if (none() || slot < 0 || slot > 3 || !rest) {
            return -2;
        }
        if (rows[slot] == null) {
            return -6;
        }
        long[] row = rows[slot];
        if (row.length % 3 != 0) {
            return -2;
        }
        for (int i = 0; i < row.length; i += 3) {
            if (row[i] < 0 || row[i] >= now.villages.size() || row[i + 1] < 0 || row[i + 1] >= now.weeks) {
                return -2;
            }
        }
        return 0;
    }

    private List<List<Integer>> agreeing(long[] row, int without) {
        List<List<Integer>> all = new ArrayList<>();
        for (List<Integer> takers : allTakers()) {
            Year y = by(takers);
            boolean so = true;
            for (int m = 0; m < row.length / 3; m++) {
                so &= m == without || y.behind[(int) row[3 * m]][(int) row[3 * m + 1]] == row[3 * m + 2];
            }
            if (so) {
                all.add(takers);
            }
        }
        return all;
    }

    int agree(int slot) {
        int wrong = marksWrong(slot, true);
        return wrong != 0 ? wrong : agreeing(rows[slot], -1).size();
    }

    private static int alike(List<Integer> answers) {
        return answers.stream().distinct().count() == 1 ? answers.get(0) : -1;
    }

    int who(int slot, int f) {
        int wrong = marksWrong(slot, isFlood(f));
        if (wrong != 0) {
            return wrong;
        }
        return alike(agreeing(rows[slot], -1).stream().map(t -> t.get(f) < 0 ? 9 : t.get(f)).toList());
    }

    int sure(int slot, int v, int week) {
        int wrong = marksWrong(slot, isVillage(v) && week >= 0 && week < now.weeks);
        if (wrong != 0) {
            return wrong;
        }
        return alike(agreeing(rows[slot], -1).stream().map(t -> by(t).behind[v][week]).toList());
    }

    int needed(int slot) {
        int wrong = marksWrong(slot, true);
        if (wrong != 0) {
            return wrong;
        }
        int all = agreeing(rows[slot], -1).size();
        for (int m = 0; m < rows[slot].length / 3; m++) {
            if (agreeing(rows[slot], m).size() > all) {
                return m;
            }
        }
        return -1;
    }

    // ---- FAIR, MELONS, CANALS, enough

    private int wealth(int v, int more, int idle) {
        Year y = go(now, now.takers, more, idle, null);
        int all = y.water[v];
        for (int c = 0; c < y.brought.length; c++) {
            all += now.crops.get(c).get("village") == v ? y.brought[c] : 0;
        }
        return all;
    }

    int fair(int v) {
        if (!isVillage(v)) {
            return -2;
        }
        for (int more = 0; more <= 100; more++) {
            if (wealth(v, more, v) <= wealth(v, more, -1)) {
                return more;
            }
        }
        return -1;
    }

    int more(int n) {
        if (none() || n < 0 || n > 100) {
            return -2;
        }
        int was = now.more;
        now.more = n;
        return was;
    }

    int melons(int v) {
        if (!isVillage(v)) {
            return -2;
        }
        Year y = year();
        int all = 0;
        for (int l = 0; l < y.loans.length; l++) {
            all += now.loans.get(l).get("debtor") == v ? y.loans[l][1] - y.loans[l][2] : 0;
        }
        for (int f = 0; f < y.floods.length; f++) {
            all += now.takers.get(f) == v ? y.floods[f][1] - y.floods[f][2] : 0;
        }
        for (Map<String, Integer> crop : now.crops) {
            if (crop.get("village") == v) {
                int melons = 0;
                while (melons * crop.get("drinks") < all) {
                    melons++;
                }
                return melons;
            }
        }
        return -1;
    }

    int share(int v) {
        if (!isVillage(v)) {
            return -2;
        }
        int n = now.villages.size();
        int[] borne = new int[n];
        int left = 0;
        for (int c = 0; c < n; c++) {
            int cost = now.canals.getOrDefault(c, 0);
            left += cost;
            for (int who = c; who < n - 1; who++) {
                borne[who] += cost / (n - c);
                left -= cost / (n - c);
            }
        }
        borne[n - 1] = left;
        return borne[v];
    }

    int enough(int v) {
        if (!isVillage(v)) {
            return -2;
        }
        int[] atFirst = now.villages.stream().mapToInt(m -> m.get("water")).toArray();
        for (int w = 0; w <= now.villages.get(v).get("pond"); w++) {
            atFirst[v] = w;
            Year y = go(now, now.takers, now.more, -1, atFirst);
            boolean dry = false;
            for (int c = 0; c < y.brought.length; c++) {
                dry |= now.crops.get(c).get("village") == v && !y.dryWeeks.get(c).isEmpty();
            }
            if (!dry) {
                return w;
            }
        }
        return -1;
    }

    // ---- DEBTS

    private int[][] debts() {
        int n = now.villages.size();
        int[][] debts = new int[n][n];
        Year y = year();
        for (int l = 0; l < y.loans.length; l++) {
            debts[now.loans.get(l).get("debtor")][now.loans.get(l).get("lender")] += y.loans[l][1] - y.loans[l][2];
        }
        return debts;
    }

    private boolean pair(int a, int b) {
        return isVillage(a) && isVillage(b) && a != b;
    }

    int owes(int v, int to) {
        return pair(v, to) ? debts()[v][to] : -2;
    }

    /** All rows of VILLAGES without one twice that begin with their least, longer than one. */
    private static void rounds(List<Integer> row, int n, List<List<Integer>> all) {
        if (row.size() > 1) {
            all.add(new ArrayList<>(row));
        }
        for (int v = 0; v < n; v++) {
            if (row.isEmpty() || v > row.get(0) && !row.contains(v)) {
                row.add(v);
                rounds(row, n, all);
                row.remove(row.size() - 1);
            }
        }
    }

    private static int leastOf(int[][] debts, List<Integer> round) {
        int least = Integer.MAX_VALUE;
        for (int i = 0; i < round.size(); i++) {
            least = Math.min(least, debts[round.get(i)][round.get((i + 1) % round.size())]);
        }
        return least;
    }

    /** Clears RINGS: those cleared, each with what its DEBTS are less by. */
    private static Map<List<Integer>, Integer> clear(int[][] debts, List<Integer> order) {
        Map<List<Integer>, Integer> cleared = new LinkedHashMap<>();
        List<List<Integer>> all = new ArrayList<>();
        rounds(new ArrayList<>(), debts.length, all);
        all.sort((a, b) -> a.size() != b.size() ? a.size() - b.size() : a.toString().compareTo(b.toString()));
        boolean again = true;
        while (again) {
            again = false;
            for (List<Integer> round : all) {
                int least = leastOf(debts, round);
                if (least > 0) {
                    for (int i = 0; i < round.size(); i++) {
                        debts[round.get(i)][round.get((i + 1) % round.size())] -= least;
                    }
                    cleared.put(round, least);
                    order.add(round.stream().mapToInt(v -> 1 << v).sum());
                    again = true;
                    break;
                }
            }
        }
        return cleared;
    }

    int rings(int what) {
        if (none() || what < 0 || what > 1) {
            return -2;
        }
        List<Integer> order = new ArrayList<>();
        int[][] debts = debts();
        int before = Arrays.stream(debts).flatMapToInt(Arrays::stream).sum();
        clear(debts, order);
        return what == 0 ? order.size() : before - Arrays.stream(debts).flatMapToInt(Arrays::stream).sum();
    }

    int ring(int i) {
        if (none()) {
            return -2;
        }
        List<Integer> order = new ArrayList<>();
        clear(debts(), order);
        return i >= 0 && i < order.size() ? order.get(i) : -1;
    }

    int left(int v, int to) {
        if (!pair(v, to)) {
            return -2;
        }
        int[][] debts = debts();
        clear(debts, new ArrayList<>());
        return debts[v][to];
    }

    private int[][] struckBy(int law) {
        int[][] debts = debts();
        int n = debts.length;
        int[][] pays = new int[n][n];
        int[] water = year().water;
        for (int v = 0; v < n; v++) {
            int[] mine = debts[v];
            int all = Arrays.stream(mine).sum();
            List<Integer> order = new ArrayList<>();
            for (int to = 0; to < n; to++) {
                order.add(to);
            }
            if (law == 1) {
                Collections.sort(order, (a, b) -> mine[a] - mine[b]);
            }
            int has = water[v];
            for (int to : order) {
                if (law == 2) {
                    pays[v][to] = water[v] < all ? (int) ((long) mine[to] * water[v] / all) : mine[to];
                } else {
                    pays[v][to] = Math.min(has, mine[to]);
                    has -= pays[v][to];
                }
            }
        }
        return pays;
    }

    private int ruined(int law) {
        int[][] debts = debts();
        int[][] pays = struckBy(law);
        int bits = 0;
        for (int v = 0; v < debts.length; v++) {
            int due = 0;
            int got = 0;
            for (int from = 0; from < debts.length; from++) {
                due += debts[from][v];
                got += pays[from][v];
            }
            bits |= due > 0 && got < due / 2.0 ? 1 << v : 0;
        }
        return bits;
    }

    int struck(int law, int what) {
        if (none() || law < 0 || law > 2 || what < 0 || what > 1) {
            return -2;
        }
        return what == 1 ? ruined(law) : Arrays.stream(struckBy(law)).flatMapToInt(Arrays::stream).sum();
    }

    int pays(int law, int v, int to) {
        return law < 0 || law > 2 || !pair(v, to) ? -2 : struckBy(law)[v][to];
    }

    int law() {
        if (none()) {
            return -2;
        }
        int[] ruined = {Integer.bitCount(ruined(0)), Integer.bitCount(ruined(1)), Integer.bitCount(ruined(2))};
        int fewest = least(ruined);
        return ruined[0] == fewest ? 0 : ruined[1] == fewest ? 1 : 2;
    }

    // ---- DRAWS

    private int come(int seed) {
        BigInteger x = BigInteger.valueOf(seed);
        int bits = 0;
        for (int f = 0; f < now.floods.size(); f++) {
            x = x.multiply(BigInteger.valueOf(1103515245)).add(BigInteger.valueOf(12345)).mod(BigInteger.ONE.shiftLeft(31));
            bits |= x.intValue() / 65536 % 100 < now.floods.get(f).get("odds") ? 1 << f : 0;
        }
        return bits;
    }

    private static boolean isSeed(int seed) {
        return seed >= 0 && seed <= 2_000_000_000;
    }

    int year(int seed, int what) {
        if (none() || !isSeed(seed) || what < 0 || what > 2) {
            return -2;
        }
        Year y = by(those(now.takers, come(seed)));
        return what == 0 ? y.broughtInAll() : what == 1 ? y.shortInAll() : come(seed);
    }

    int years(int seed, int n) {
        if (none() || !isSeed(seed) || n < 1 || n > 20) {
            return -2;
        }
        int fine = 0;
        for (int i = 0; i < n; i++) {
            fine += by(those(now.takers, come(seed + i))).shortInAll() == 0 ? 1 : 0;
        }
        return fine;
    }

    // ---- count, IMAGES, SLOTS

    int count(int what) {
        int slots = (int) Arrays.stream(rows).filter(r -> r != null).count();
        int[] all = {now.weeks, now.villages.size(), now.crops.size(), now.floods.size(), now.loans.size(), now.lines,
            tape.length, now.more, now.back, slots};
        return what < 0 || what > 9 ? -1 : all[what];
    }

    int image(int k) {
        if (k < 0 || k > 2) {
            return -2;
        }
        images[k] = now.copy();
        return 0;
    }

    int restore(int k) {
        if (k < 0 || k > 2) {
            return -2;
        }
        if (images[k] == null) {
            return -6;
        }
        now = images[k].copy();
        return 0;
    }

    int row(int slot, int width, int n) {
        if (slot < 0 || slot > 3 || width < 0 || width > 3 || n > 60) {
            return -2;
        }
        if (n < 0) {
            return -3;
        }
        rows[slot] = new long[n];
        widths[slot] = width;
        return 0;
    }

    int write(int slot, int i, long v) {
        if (slot < 0 || slot > 3) {
            return -2;
        }
        if (rows[slot] == null) {
            return -6;
        }
        if (i < 0 || i >= rows[slot].length) {
            return -7;
        }
        int unused = 64 - (8 << widths[slot]);
        rows[slot][i] = v << unused >> unused;
        return 0;
    }

    int paste(int slot, int i, int to, int k, int n) {
        if (slot < 0 || slot > 3 || to < 0 || to > 3) {
            return -2;
        }
        if (rows[slot] == null || rows[to] == null) {
            return -6;
        }
        if (widths[slot] != widths[to]) {
            return -8;
        }
        if (i < 0 || k < 0 || n < 0 || (long) i + n > rows[slot].length || (long) k + n > rows[to].length) {
            return -7;
        }
        long[] before = rows[slot].clone();
        for (int j = 0; j < n; j++) {
            rows[to][k + j] = before[i + j];
        }
        return 0;
    }
}
