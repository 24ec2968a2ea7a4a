/** Promises 1 to 6 and 38 with term I, sentence by sentence: each at the bound that it names and on both sides of it. */
public final class TextBoundsTest {
    private static final String RIVER = Tell.river(5, 20, 3);
    private static final String TWO = RIVER + Tell.village(30, 10, 20, 2) + Tell.village(25, 4, 11, 1);
    /** A LINE of each kind, its TOKENS apart; all but the first stand behind TWO. */
    private static final String[] LINES = {
        "river weeks 5 more 20 back 3 ;", "village pond 9 water 8 face 7 seep 6 ;", "crop 1 drinks 3 brings 5 from 1 to 3 ;",
        "sun 1 is 50 ;", "flood 1 brings 15 odds 40 ;", "loan 0 to 1 of 5 on 0 till 2 ;", "canal 1 costs 8 ;"};
    private static final int[] NO_NUMBERS = {-1, Integer.MIN_VALUE, Integer.MAX_VALUE};

    public static void main(String[] args) {
        newObject();
        feedBytes();
        feedFull();
        endOfTape();
        plainEmpty();
        plainInPlace();
        plainFaultKeeps();
        faultOfLatest();
        village();
        count();
        countWithout();
        lineAndSign();
        wordsOfLines();
        riverFirst();
        blanks();
        noTokens();
        longestTokens();
        riverNumbers();
        villageNumbers();
        cropNumbers();
        sunAndCanalNumbers();
        floodNumbers();
        loanNumbers();
        toldAhead();
        laterStrikes();
        numberedAsTheyStand();
        tooMany();
        firstFault();
        leastFault();
        endPlace();
        Check.close("TextBoundsTest");
    }

    // ---- promises 1 to 6 and 38

    private static void newObject() {
        Check.sentence("1: No PLAIN.");
        FloodLent x = new FloodLent();
        for (int what = 0; what < 10; what++) {
            Check.due("count(" + what + ")", x.count(what), 0);
        }
        Check.due("sum(0)", x.sum(0), -2);
        Check.due("village(0, 0)", x.village(0, 0), -2);
        Check.due("fault(0)", x.fault(0), 0);
        for (int k = 0; k < 3; k++) {
            Check.due("restore(" + k + ")", x.restore(k), -6);
        }
        for (int slot = 0; slot < 4; slot++) {
            Check.due("write(" + slot + ", 0, 0)", x.write(slot, 0, 0), -6);
        }
        FloodLent one = Check.with(TWO);
        Check.due("count(5) of another object", new FloodLent().count(5), 0);
        Check.due("count(5) of this one", one.count(5), 3);
    }

    private static void feedBytes() {
        Check.sentence("2: Twenty bytes come behind the TAPE, four of each number, the highest first: how many it has");
        FloodLent x = new FloodLent();
        // "river weeks 4 more 0" and " back 3;sun 0 is 10;"
        Check.due("feed() of the first twenty", x.feed(0x72697665, 0x72207765, 0x656b7320, 0x34206d6f, 0x72652030), 20);
        Check.due("feed() of the next", x.feed(0x20626163, 0x6b20333b, 0x73756e20, 0x30206973, 0x2031303b), 40);
        Check.due("plain()", x.plain(), 2);
        Check.due("weeks", x.count(0), 4);
        Check.due("back", x.count(8), 3);
        // Bytes of 128 and more, also the highest of a number, are bytes like others: here none is a TOKEN.
        Check.due("feed() of blanks", x.feed(0x20202020, 0x20202020, 0x20202020, 0x20202020, 0x202020a0), 20);
        Check.due("plain() of a byte 160", x.plain(), -4);
        Check.due("its place", x.fault(1), 19);
        x.feed(0x20202020, 0x20202020, 0x20202020, 0x0a0a0a0a, 0x80202020);
        Check.due("plain() of a byte 128", x.plain(), -4);
        Check.due("its place", x.fault(1), 16);
        x.feed(0x20202020, 0x20ff2020, 0x20202020, -1, -1);
        Check.due("plain() of a byte 255", x.plain(), -4);
        Check.due("its place", x.fault(1), 5);
    }

    /** A PLAIN whose text fills the TAPE but for so many bytes. */
    private static String longText(int less) {
        StringBuilder s = new StringBuilder(TWO);
        while (s.length() < 1600 - less - 12) {
            s.append("sun 0 is 9;");
        }
        while (s.length() < 1600 - less) {
            s.append(' ');
        }
        return s.toString();
    }

    private static void feedFull() {
        Check.sentence("2: NONE, and none come, if it would have more than 1,600");
        for (int left = 19; left <= 21; left++) {
            FloodLent x = new FloodLent();
            String text = longText(left);
            Check.feed(x, text.substring(0, 1560));
            // The rest is fed by twenties, cut where the text ends.
            Check.feed(x, text.substring(1560));
            Check.due("bytes", x.count(6), 1600 - left);
            boolean goes = left >= 20;
            Check.due("feed() with " + left + " bytes left", x.feed(0x6c616b65, 0, 0, 0, 0), goes ? 1620 - left : -1);
            Check.due("bytes then", x.count(6), goes ? 1620 - left : 1600 - left);
            Check.due("plain()", x.plain() == -4 ? 1 : 0, goes ? 1 : 0);
            Check.due("its FAULT's place", x.fault(1), goes ? 1600 - left : -1);
        }
        FloodLent full = new FloodLent();
        for (int i = 1; i <= 80; i++) {
            Check.due("feed() " + i, full.feed(0x20202020, 0x20202020, 0x20202020, 0x20202020, 0x20202020), 20 * i);
        }
        for (int i = 0; i < 3; i++) {
            Check.due("feed() to a full one", full.feed(-1, -1, -1, -1, -1), -1);
            Check.due("bytes of a full one", full.count(6), 1600);
        }
        Check.due("plain() of a full one", full.plain(), 0);
        Check.due("feed() behind plain()", full.feed(0, 0, 0, 0, 0), 20);
    }

    private static void endOfTape() {
        Check.sentence("3: The TAPE has its first n bytes alone: n");
        FloodLent x = new FloodLent();
        Check.feed(x, RIVER + "sun 0 is 9;");
        int n = RIVER.length() + 11;
        Check.due("end() of all", x.end(n), n);
        Check.due("bytes", x.count(6), n);
        Check.due("end() of one less", x.end(n - 1), n - 1);
        Check.due("end() of the river", x.end(RIVER.length()), RIVER.length());
        Check.feed(x, "sun 1 is 9; sun 2 is 9;");
        Check.due("plain()", x.plain(), 3);
        Check.feed(x, RIVER);
        Check.due("end(1)", x.end(1), 1);
        Check.due("bytes", x.count(6), 1);
        Check.due("end(0)", x.end(0), 0);
        Check.due("end(0) of nothing", x.end(0), 0);
        Check.due("plain()", x.plain(), 0);
        Check.sentence("3: NONE, and nothing happens, if it has not so many, or n is below 0");
        FloodLent y = new FloodLent();
        Check.due("end(1) of nothing", y.end(1), -1);
        Check.feed(y, TWO);
        Check.due("end() of one more", y.end(TWO.length() + 1), -1);
        for (int none : NO_NUMBERS) {
            Check.due("end(" + none + ")", y.end(none), -1);
        }
        // What end() took off is not there again.
        Check.due("end() of less", y.end(TWO.length() - 1), TWO.length() - 1);
        Check.due("end() of what was", y.end(TWO.length()), -1);
        Check.due("bytes", y.count(6), TWO.length() - 1);
        Check.feed(y, ";");
        Check.due("plain(), nothing happened", y.plain(), 3);
    }

    private static void plainEmpty() {
        Check.sentence("4: how many LINES (0: there is none then)");
        FloodLent x = new FloodLent();
        Check.due("plain() of an empty TAPE", x.plain(), 0);
        Check.due("plain() of a river", Check.plain(x, RIVER), 1);
        Check.due("first()", x.first(), -1);
        Check.due("plain() of an empty TAPE", x.plain(), 0);
        Check.due("first(), none then", x.first(), -2);
        Check.plain(x, TWO + LINES[4]);
        Check.due("plain() of blanks", Check.plain(x, " \n "), 0);
        Check.due("first(), none then", x.first(), -2);
        Check.due("takes(0, -1), none then", x.takes(0, -1), -2);
        Check.due("more(0), none then", x.more(0), -2);
        for (int what = 0; what < 10; what++) {
            Check.due("count(" + what + "), none then", x.count(what), 0);
        }
    }

    private static void plainInPlace() {
        Check.sentence("4: The TAPE (empty then) is the PLAIN (in place of another)");
        FloodLent x = Check.with(TWO + Tell.crop(0, 1, 1, 0, 0) + Tell.flood(0, 5, 50) + Tell.loan(0, 1, 2, 0, 4)
            + Tell.sun(1, 99) + Tell.canal(1, 7));
        Check.due("bytes", x.count(6), 0);
        Check.due("LINES of another", Check.plain(x, Tell.river(9, 1, 2) + Tell.village(7, 6, 5, 4)), 2);
        int[] due = {9, 1, 0, 0, 0, 2, 0, 1, 2, 0};
        for (int what = 0; what < 10; what++) {
            Check.due("count(" + what + ")", x.count(what), due[what]);
        }
        int[] village = {7, 6, 5, 4, 0};
        for (int what = 0; what < 5; what++) {
            Check.due("village(0, " + what + ")", x.village(0, what), village[what]);
        }
        Check.due("no sun of the one ahead", x.sum(3), 0);
        Check.due("the same as ahead of it", Check.plain(x, TWO), 3);
        Check.due("no canal of the one ahead", x.village(1, 4), 0);
        Check.sentence("4: nobody takes FLOODS");
        FloodLent y = Check.with(TWO + Tell.flood(0, 5, 50) + Tell.flood(1, 5, 50));
        y.takes(0, 0);
        y.takes(1, 1);
        Check.plain(y, TWO + Tell.flood(0, 5, 50) + Tell.flood(1, 5, 50));
        Check.due("TAKEN", y.sum(6), 0);
        Check.due("who took FLOOD 0", y.takes(0, 0), -1);
        Check.due("who took FLOOD 1", y.takes(1, 1), -1);
    }

    private static void plainFaultKeeps() {
        Check.sentence("4: -4: a FAULT (the TAPE is empty, all else stays)");
        FloodLent x = Check.with(TWO + Tell.flood(0, 5, 50) + Tell.sun(1, 50) + Tell.canal(0, 9));
        x.takes(0, 1);
        x.more(33);
        x.image(1);
        x.row(2, 0, 3);
        x.write(2, 2, 10);
        int sky = x.sum(3);
        Check.feed(x, Tell.river(4, 1, 1) + Tell.village(1, 1, 1, 1) + Tell.flood(0, 9, 9) + Tell.sun(0, 99) + Tell.canal(0, 1) + "lake");
        Check.due("plain()", x.plain(), -4);
        int[] due = {5, 2, 0, 1, 0, 6, 0, 33, 3, 1};
        for (int what = 0; what < 10; what++) {
            Check.due("count(" + what + ")", x.count(what), due[what]);
        }
        Check.due("pond", x.village(0, 0), 30);
        Check.due("canal", x.village(0, 4), 9);
        Check.due("sun", x.sum(3), sky);
        Check.due("TAKERS", x.takes(0, 0), 1);
        Check.due("a row", x.write(2, 2, 10), 0);
        Check.due("an IMAGE", x.restore(1), 0);
        Check.due("plain() again, of an empty TAPE", x.plain(), 0);
        FloodLent none = new FloodLent();
        Check.due("plain() ahead of any PLAIN", Check.plain(none, "river"), -4);
        Check.due("there is none still", none.first(), -2);
        Check.due("no weeks", none.count(0), 0);
    }

    private static void faultOfLatest() {
        Check.sentence("5: Of the latest plain(), what 0: its FAULT, 0 without, 1: its place (NONE without)");
        FloodLent x = new FloodLent();
        for (int i = 0; i < 2; i++) {
            Check.plain(x, RIVER + "sun 5 is 9;");
            Check.due("fault(0)", x.fault(0), 2);
            Check.due("fault(1)", x.fault(1), RIVER.length() + 4);
            Check.plain(x, "lake");
            Check.due("fault(0)", x.fault(0), 1);
            Check.due("fault(1), the least place", x.fault(1), 0);
            Check.plain(x, RIVER + Tell.village(9, 9).repeat(7));
            Check.due("fault(0)", x.fault(0), 3);
            Check.plain(x, RIVER);
            Check.due("fault(0) without", x.fault(0), 0);
            Check.due("fault(1) without", x.fault(1), -1);
            Check.plain(x, "?");
            // What else happens does not change it.
            x.image(0);
            x.restore(0);
            Check.feed(x, RIVER);
            x.end(0);
            Check.due("fault(0) of the latest", x.fault(0), 1);
            Check.due("fault(1) of the latest", x.fault(1), 0);
            x.plain();
            Check.due("fault(0) of an empty TAPE", x.fault(0), 0);
            Check.due("fault(1) of an empty TAPE", x.fault(1), -1);
        }
        Check.sentence("5: NONE for another what, and ahead of any (what 1)");
        FloodLent y = new FloodLent();
        Check.due("fault(1) ahead of any", y.fault(1), -1);
        Check.due("fault(0) ahead of any", y.fault(0), 0);
        for (int i = 0; i < 2; i++) {
            for (int what : new int[] {-1, 2, 3, Integer.MIN_VALUE, Integer.MAX_VALUE}) {
                Check.due("fault(" + what + ")", y.fault(what), -1);
            }
            Check.plain(y, RIVER + "lake");
        }
    }

    private static void village() {
        Check.sentence("6: Of a VILLAGE, what 0: pond, 1: water at first, 2: face, 3: seep, 4: what its canal costs");
        StringBuilder s = new StringBuilder(RIVER);
        for (int v = 0; v < 6; v++) {
            s.append(Tell.village(100 + v, 90 + v, 80 + v, 70 + v)).append(Tell.canal(v, 60 + v));
        }
        FloodLent x = Check.with(s.append(Tell.sun(0, 99)).toString());
        for (int v = 0; v < 6; v++) {
            for (int what = 0; what < 5; what++) {
                Check.due("village(" + v + ", " + what + ")", x.village(v, what), 100 + v - 10 * what);
            }
        }
        Check.due("water at first, not at the end", x.water(0, 4) < 90 ? 1 : 0, 1);
        Check.sentence("6: -2: there are none such");
        for (int v : new int[] {-1, 6, Integer.MIN_VALUE, Integer.MAX_VALUE}) {
            Check.due("village(" + v + ", 0)", x.village(v, 0), -2);
        }
        for (int what : new int[] {-1, 5, Integer.MIN_VALUE, Integer.MAX_VALUE}) {
            Check.due("village(0, " + what + ")", x.village(0, what), -2);
        }
        FloodLent two = Check.with(TWO);
        Check.due("village(1, 0) of two", two.village(1, 0), 25);
        Check.due("village(2, 0) of two", two.village(2, 0), -2);
        Check.due("village(0, 0) of a river", Check.with(RIVER).village(0, 0), -2);
    }

    private static void count() {
        Check.sentence("38: 0 weeks, 1 VILLAGES, 2 CROPS, 3 FLOODS, 4 LOANS, 5 LINES, 6 bytes of the TAPE, 7 more, 8 back, "
            + "9 SLOTS that have a row");
        FloodLent x = Check.with(Tell.river(7, 11, 6) + Tell.village(9, 9).repeat(5) + Tell.crop(0, 1, 1, 0, 0).repeat(4)
            + Tell.flood(0, 1, 1).repeat(2) + Tell.loan(0, 1, 1, 0, 1).repeat(3) + Tell.sun(0, 1) + Tell.sun(0, 2));
        int[] due = {7, 5, 4, 2, 3, 17, 0, 11, 6, 0};
        for (int what = 0; what < 10; what++) {
            Check.due("count(" + what + ")", x.count(what), due[what]);
        }
        x.more(12);
        Check.due("count(7) by more()", x.count(7), 12);
        x.feed(0, 0, 0, 0, 0);
        Check.due("count(6)", x.count(6), 20);
        for (int slot = 3; slot >= 0; slot--) {
            x.row(slot, slot, 15 * slot);
            Check.due("count(9)", x.count(9), 4 - slot);
        }
        x.row(2, 0, 0);
        Check.due("count(9), a row in place of another", x.count(9), 4);
        Check.due("count(4) still", x.count(4), 3);
    }

    private static void countWithout() {
        Check.sentence("38: NONE for others (0 without a PLAIN)");
        for (FloodLent x : new FloodLent[] {new FloodLent(), Check.with(TWO)}) {
            for (int what : new int[] {-1, 10, 11, Integer.MIN_VALUE, Integer.MAX_VALUE}) {
                Check.due("count(" + what + ")", x.count(what), -1);
            }
            x.plain();
            for (int what = 0; what < 10; what++) {
                Check.due("count(" + what + ") without a PLAIN", x.count(what), 0);
            }
        }
    }

    // ---- term I: how a text stands

    private static void lineAndSign() {
        Check.sentence("I: PLAIN: {LINE ;}");
        Check.fine("", 0);
        Check.fine(RIVER, 1);
        Check.fine(RIVER + LINES[3] + LINES[3], 3);
        Check.faulty("^;", 1);
        Check.faulty(RIVER + "^;", 1);
        Check.faulty(TWO + LINES[3] + "^;" + LINES[3], 1);
        Check.faulty(TWO + "sun 1 is 9 ^sun 2 is 9;", 1);
        Check.faulty(TWO + "sun 1 is 9^", 1);
    }

    private static String joined(String ahead, String[] tokens, int at, String instead) {
        StringBuilder s = new StringBuilder(ahead);
        for (int i = 0; i < tokens.length; i++) {
            s.append(i == at ? "^" + instead : tokens[i]).append(' ');
        }
        return s.toString();
    }

    private static void wordsOfLines() {
        Check.sentence("I: LINE: river weeks N more N back N | village .. | crop .. | sun .. | flood .. | loan .. | canal ..");
        for (String line : LINES) {
            String ahead = line.startsWith("river") ? "" : TWO;
            String[] tokens = line.split(" ");
            Check.fine(ahead + line, ahead.isEmpty() ? 1 : 4);
            Check.fine(ahead + String.join("\n", tokens), ahead.isEmpty() ? 1 : 4);
            for (int i = 0; i < tokens.length; i++) {
                boolean number = Character.isDigit(tokens[i].charAt(0));
                Check.faulty(joined(ahead, tokens, i, "lake"), 1);
                Check.faulty(joined(ahead, tokens, i, "?"), 1);
                Check.faulty(joined(ahead, tokens, i, number ? ";" : "1"), 1);
                if (!number && i < tokens.length - 1) {
                    Check.faulty(joined(ahead, tokens, i, tokens[i] + "s"), 1);
                    Check.faulty(joined(ahead, tokens, i, "a" + tokens[i]), 1);
                    Check.faulty(joined(ahead, tokens, i, tokens[i].substring(0, tokens[i].length() - 1)), 1);
                }
                if (i > 0) {
                    Check.faulty(joined(ahead, tokens, i, tokens[i - 1] + " " + tokens[i]), 1);
                    String cut = joined(ahead, tokens, i, "");
                    Check.faulty(cut.substring(0, cut.indexOf('^')).trim() + "^", 1);
                }
            }
        }
    }

    private static void riverFirst() {
        Check.sentence("I: river is the first LINE and no other");
        for (int i = 1; i < LINES.length; i++) {
            Check.faulty("^" + LINES[i], 1);
            Check.faulty("^" + LINES[i] + RIVER, 1);
        }
        Check.faulty(RIVER + "^" + RIVER, 1);
        Check.faulty(RIVER + "^river", 1);
        Check.faulty(TWO + "^" + RIVER, 1);
        Check.faulty(TWO + LINES[3] + LINES[4] + "^" + RIVER, 1);
    }

    private static void blanks() {
        Check.sentence("I: blanks (32, 10) aside");
        Check.fine(" \n \n" + RIVER + "\n\n \n", 1);
        Check.fine("\n\nriver\nweeks  4\n \nmore 0 back 3 \n;", 1);
        Check.fine("river weeks4more0back3;village pond9999water9999face99seep99;", 2);
        Check.faulty("^ri ver weeks 4 more 0 back 3;", 1);
        Check.faulty("river weeks 10 ^0 more 0 back 3;", 1);
        Check.faulty("river ^we\neks 4 more 0 back 3;", 1);
        for (int sign : new int[] {0, 9, 11, 12, 13, 31, 33, 160}) {
            Check.faulty(RIVER + "^" + (char) sign + LINES[1], 1);
            Check.faulty("river^" + (char) sign + "weeks 4 more 0 back 3;", 1);
        }
    }

    private static void noTokens() {
        Check.sentence("I: FAULTS: 1 a TOKEN that is none");
        for (int sign = 0; sign < 256; sign++) {
            boolean token = sign == ' ' || sign == '\n' || sign == ';' || sign >= 'a' && sign <= 'z' || sign >= '0' && sign <= '9';
            if (!token) {
                Check.faulty("^" + (char) sign + RIVER, 1);
                Check.faulty(RIVER + " ^" + (char) sign, 1);
                Check.faulty("river weeks ^" + (char) sign + "4 more 0 back 3;", 1);
                Check.faulty("river weeks 4^" + (char) sign + " more 0 back 3;", 1);
                Check.faulty("river weeks 4 more^" + (char) sign + " 0 back 3;", 1);
                Check.faulty("river weeks 4 more 0 back 3^" + (char) sign + ";", 1);
            }
        }
    }

    private static void longestTokens() {
        Check.sentence("I: TOKENS, the longest: words (a .. z), numbers (digits), the sign ;");
        for (String more : new String[] {"a", "m", "z"}) {
            Check.faulty("^river" + more + " weeks 4 more 0 back 3;", 1);
            Check.faulty("^" + more + "river weeks 4 more 0 back 3;", 1);
        }
        for (String more : new String[] {"`", "{", "A", "Z", "R", "_", "\u00e9"}) {
            Check.faulty("river^" + more + " weeks 4 more 0 back 3;", 1);
        }
        for (String more : new String[] {"/", ":", "-", "+", ".", ","}) {
            Check.faulty("river weeks 4^" + more + " more 0 back 3;", 1);
        }
        Check.fine("river weeks 09 more 90 back 008;", 1);
        Check.fine("river weeks " + "0".repeat(400) + "4 more 0 back 3;", 1);
        Check.faulty("river weeks ^44 more 0 back 3;", 2);
        Check.faulty("river weeks 4 ^4 more 0 back 3;", 1);
        Check.faulty("^riverweeks 4 more 0 back 3;", 1);
        Check.faulty(RIVER + "sun 0 is 1;^;", 1);
    }

    // ---- term I: the bounds of numbers

    /** Of a number between two texts: the least and the most are fine, those beyond are not, nor what wraps around to them. */
    private static void bound(String ahead, int least, int most, String behind, int lines) {
        Check.fine(ahead + least + behind, lines);
        Check.fine(ahead + most + behind, lines);
        Check.fine(ahead + "000000000000" + most + behind, lines);
        if (least > 0) {
            Check.faulty(ahead + "^" + (least - 1) + behind, 2);
            Check.faulty(ahead + "^0" + behind, 2);
        }
        Check.faulty(ahead + "^" + (most + 1) + behind, 2);
        Check.faulty(ahead + "^" + Integer.MAX_VALUE + behind, 2);
        Check.faulty(ahead + "^" + (most + (1L << 32)) + behind, 2);
        Check.faulty(ahead + "^" + new java.math.BigInteger("18446744073709551616").add(java.math.BigInteger.valueOf(least)) + behind, 2);
        Check.faulty(ahead + "^" + "9".repeat(60) + behind, 2);
    }

    private static void riverNumbers() {
        Check.sentence("I: weeks 4 .. 30");
        bound("river weeks ", 4, 30, " more 0 back 0;", 1);
        Check.sentence("I: more 0 .. 100");
        bound("river weeks 4 more ", 0, 100, " back 0;", 1);
        Check.sentence("I: back a WEEK");
        bound("river weeks 4 more 0 back ", 0, 3, ";", 1);
        bound("river weeks 30 more 0 back ", 0, 29, ";", 1);
        Check.sentence("I: WEEKS 0 .. weeks less 1");
        for (int weeks : new int[] {4, 17, 30}) {
            bound(Tell.river(weeks, 0, 0) + "sun ", 0, weeks - 1, " is 1;", 2);
            FloodLent x = Check.with(Tell.river(weeks, 0, 0) + Tell.village(9, 8));
            Check.due("weeks", x.count(0), weeks);
            Check.due("water behind the last WEEK", x.water(0, weeks - 1), 8);
            Check.due("water behind no WEEK", x.water(0, weeks), -2);
        }
    }

    private static void villageNumbers() {
        Check.sentence("I: pond 0 .. 9,999");
        bound(RIVER + "village pond ", 0, 9999, " water 0 face 0 seep 0;", 2);
        Check.sentence("I: water no more than pond");
        for (int pond : new int[] {0, 1, 7, 9999}) {
            bound(RIVER + "village pond " + pond + " water ", 0, pond, " face 0 seep 0;", 2);
        }
        Check.sentence("I: face, seep 0 .. 99");
        bound(RIVER + "village pond 1 water 1 face ", 0, 99, " seep 0;", 2);
        bound(RIVER + "village pond 1 water 1 face 0 seep ", 0, 99, ";", 2);
    }

    private static void cropNumbers() {
        Check.sentence("I: drinks 1 .. 99");
        bound(TWO + "crop 0 drinks ", 1, 99, " brings 5 from 1 to 3;", 4);
        Check.sentence("I: brings 0 .. 99");
        bound(TWO + "crop 0 drinks 3 brings ", 0, 99, " from 1 to 3;", 4);
        Check.sentence("I: from, to WEEKS");
        bound(TWO + "crop 0 drinks 3 brings 5 from ", 0, 4, " to 4;", 4);
        bound(TWO + "crop 0 drinks 3 brings 5 from 0 to ", 0, 4, ";", 4);
        Check.sentence("I: to no less than from");
        for (int from = 0; from < 5; from++) {
            bound(TWO + "crop 0 drinks 3 brings 5 from " + from + " to ", from, 4, ";", 4);
        }
    }

    private static void sunAndCanalNumbers() {
        Check.sentence("I: sun of a WEEK 0 .. 99");
        bound(TWO + "sun ", 0, 4, " is 1;", 4);
        bound(TWO + "sun 0 is ", 0, 99, ";", 4);
        Check.sentence("I: costs 0 .. 9,999");
        bound(TWO + "canal 0 costs ", 0, 9999, ";", 4);
    }

    private static void floodNumbers() {
        Check.sentence("I: flood of a WEEK brings 0 .. 9,999, odds 0 .. 100");
        bound(TWO + "flood ", 0, 4, " brings 1 odds 1;", 4);
        bound(TWO + "flood 0 brings ", 0, 9999, " odds 1;", 4);
        bound(TWO + "flood 0 brings 1 odds ", 0, 100, ";", 4);
    }

    private static void loanNumbers() {
        Check.sentence("I: of a loan 1 .. 9,999");
        bound(TWO + "loan 0 to 1 of ", 1, 9999, " on 0 till 4;", 4);
        Check.sentence("I: two unlike VILLAGES");
        Check.faulty(TWO + "loan 0 to ^0 of 1 on 0 till 4;", 2);
        Check.faulty(TWO + "loan 1 to ^1 of 1 on 0 till 4;", 2);
        Check.fine(TWO + "loan 0 to 1 of 1 on 0 till 4;", 4);
        Check.fine(TWO + "loan 1 to 0 of 1 on 0 till 4;", 4);
        Check.faulty(RIVER + Tell.village(9, 9) + "loan 0 to ^0 of 1 on 0 till 4;", 2);
        Check.sentence("I: till above on, both WEEKS");
        for (int on = 0; on < 4; on++) {
            Check.fine(TWO + "loan 0 to 1 of 1 on " + on + " till " + (on + 1) + ";", 4);
            Check.fine(TWO + "loan 0 to 1 of 1 on " + on + " till 4;", 4);
            Check.faulty(TWO + "loan 0 to 1 of 1 on " + on + " till ^" + on + ";", 2);
            Check.faulty(TWO + "loan 0 to 1 of 1 on " + on + " till ^0;", 2);
            Check.faulty(TWO + "loan 0 to 1 of 1 on " + on + " till ^5;", 2);
        }
        Check.faulty(TWO + "loan 0 to 1 of 1 on 4 till ^4;", 2);
        Check.faulty(TWO + "loan 0 to 1 of 1 on 4 till ^5;", 2);
        Check.faulty(TWO + "loan 0 to 1 of 1 on ^5 till 4;", 2);
        Check.faulty(TWO + "loan 0 to 1 of 1 on ^5 till 6;", 2);
    }

    private static void toldAhead() {
        Check.sentence("I: V: a VILLAGE 0 .. 5 told ahead");
        String[][] lines = {{"crop ", " drinks 3 brings 5 from 1 to 3;"}, {"canal ", " costs 1;"}};
        for (int villages = 1; villages <= 6; villages++) {
            String ahead = RIVER + Tell.village(9, 9).repeat(villages);
            for (String[] line : lines) {
                bound(ahead + line[0], 0, villages - 1, line[1], villages + 2);
            }
            if (villages > 1) {
                bound(ahead + "loan 0 to ", 1, villages - 1, " of 1 on 0 till 1;", villages + 2);
                Check.fine(ahead + "loan 1 to 0 of 1 on 0 till 1;", villages + 2);
                Check.fine(ahead + "loan " + (villages - 1) + " to 0 of 1 on 0 till 1;", villages + 2);
                Check.faulty(ahead + "loan ^" + villages + " to 0 of 1 on 0 till 1;", 2);
            }
        }
        for (String[] line : lines) {
            Check.faulty(RIVER + line[0] + "^0" + line[1], 2);
            Check.faulty(RIVER + line[0] + "^0" + line[1] + Tell.village(9, 9), 2);
            Check.faulty(RIVER + Tell.village(9, 9) + line[0] + "^1" + line[1] + Tell.village(9, 9), 2);
        }
        Check.faulty(RIVER + "loan ^0 to 1 of 1 on 0 till 1;", 2);
        Check.faulty(RIVER + Tell.village(9, 9) + "loan 0 to ^1 of 1 on 0 till 1;" + Tell.village(9, 9), 2);
        Check.faulty(RIVER + Tell.village(9, 9) + "loan ^1 to 0 of 1 on 0 till 1;" + Tell.village(9, 9), 2);
    }

    private static void laterStrikes() {
        Check.sentence("I: sun of a WEEK 0 .. 99 (a later one strikes; 0 without)");
        String dry = Tell.river(5, 0, 0) + Tell.village(99, 90, 10, 0);
        int[][] suns = {{}, {1, 50}, {1, 50, 1, 30}, {1, 50, 1, 0}, {1, 50, 2, 30, 1, 20}, {0, 99, 4, 99}};
        int[] sky = {0, 5, 3, 0, 5, 18};
        for (int i = 0; i < suns.length; i++) {
            StringBuilder s = new StringBuilder(dry);
            for (int k = 0; k < suns[i].length; k += 2) {
                s.append(Tell.sun(suns[i][k], suns[i][k + 1]));
            }
            Check.due("what the SKY drinks by " + s, Check.with(s.toString()).sum(3), sky[i]);
        }
        Check.sentence("I: costs 0 .. 9,999 (a later one of that VILLAGE strikes; 0 without)");
        FloodLent x = Check.with(TWO + Tell.village(1, 1) + Tell.canal(0, 5) + Tell.canal(1, 9999) + Tell.canal(0, 6) + Tell.canal(1, 0)
            + Tell.canal(0, 7));
        Check.due("a third one", x.village(0, 4), 7);
        Check.due("a second one of 0", x.village(1, 4), 0);
        Check.due("without", x.village(2, 4), 0);
        // A VILLAGE that is told behind a canal is another one.
        FloodLent y = Check.with(RIVER + Tell.village(1, 1) + Tell.canal(0, 5) + Tell.village(1, 1));
        Check.due("the one ahead", y.village(0, 4), 5);
        Check.due("the one behind", y.village(1, 4), 0);
    }

    private static void numberedAsTheyStand() {
        Check.sentence("I: CROPS 0 .. 7, FLOODS 0 .. 2, LOANS 0 .. 7 are numbered as they stand");
        StringBuilder s = new StringBuilder(Tell.river(4, 0, 0) + Tell.village(9999, 5000) + Tell.village(9999, 0));
        for (int i = 0; i < 8; i++) {
            s.append(Tell.crop(0, 1, 10 + i, 0, 0)).append(Tell.loan(0, 1, 20 + i, 0, 3));
            if (i < 3) {
                s.append(Tell.flood(3 - i, 30 + i, 50));
            }
        }
        FloodLent x = Check.with(s.toString());
        for (int i = 0; i < 8; i++) {
            Check.due("crop(" + i + ", 0)", x.crop(i, 0), 10 + i);
            Check.due("loan(" + i + ", 0)", x.loan(i, 0), 20 + i);
        }
        for (int i = 0; i < 3; i++) {
            x.takes(i, i % 2);
            Check.due("flood(" + i + ", 0)", x.flood(i, 0), 30 + i);
        }
        Check.due("crop(8, 0)", x.crop(8, 0), -2);
        Check.due("loan(8, 0)", x.loan(8, 0), -2);
        Check.due("flood(3, 0)", x.flood(3, 0), -2);
    }

    // ---- FAULTS

    private static void tooMany() {
        Check.sentence("I: FAULTS: 3 a 7th village, 9th crop, 4th flood, 9th loan, at its word");
        String[] lines = {LINES[1], LINES[2], LINES[4], LINES[5]};
        int[] most = {4, 8, 3, 8};
        for (int i = 0; i < lines.length; i++) {
            String word = lines[i].substring(0, lines[i].indexOf(' '));
            Check.fine(TWO + lines[i].repeat(most[i] - 1), 2 + most[i]);
            Check.fine(TWO + lines[i].repeat(most[i]), 3 + most[i]);
            String full = TWO + lines[i].repeat(most[i]);
            Check.faulty(full + "^" + lines[i], 3);
            Check.faulty(full + "^" + lines[i] + lines[i], 3);
            // At its word, whatever stands behind it.
            Check.faulty(full + "^" + word, 3);
            Check.faulty(full + "^" + word + " 99999 ? ;", 3);
            Check.faulty(full + "\n  ^" + word + "\n;", 3);
            Check.faulty(full + LINES[3] + "^" + lines[i], 3);
            // A LINE of another kind may still come.
            Check.fine(full + lines[(i + 1) % 4] + LINES[3] + LINES[6], 6 + most[i]);
        }
        Check.fine(RIVER + "sun 4 is 9;".repeat(140), 141);
        Check.fine(TWO + "canal 1 costs 9;".repeat(60), 63);
    }

    private static void firstFault() {
        Check.sentence("I: FAULTS, the first by its place (a TOKEN's first byte; the end's)");
        Check.faulty(TWO + "sun ^5 is lake;", 2);
        Check.faulty(TWO + "sun ^5 is 100;", 2);
        Check.faulty(TWO + "sun 4 is ^lake; sun 5 is 9;", 1);
        Check.faulty(TWO + "sun ^5 is 9; ?", 2);
        Check.faulty(TWO + "sun ^5 is", 2);
        Check.faulty(TWO + "sun ^9999999999 is 9", 2);
        Check.faulty(RIVER + Tell.village(9, 9).repeat(6) + "sun ^5 is 9;" + Tell.village(9, 9), 2);
        Check.faulty(RIVER + Tell.village(9, 9).repeat(6) + "^lake;" + Tell.village(9, 9), 1);
        Check.faulty(RIVER + Tell.village(9, 9).repeat(6) + "^village pond 10000 water 9 face 9 seep 9;", 3);
        Check.faulty("^lake" + RIVER, 1);
        Check.faulty("river weeks 4 more ^101 back 4;", 2);
        Check.faulty("   \n  ^lake", 1);
    }

    private static void leastFault() {
        Check.sentence("I: FAULTS, of one place the least");
        // A number out of its bounds that can't stand there; a 7th village that can't.
        Check.faulty("river weeks 4 ^99999 more 0 back 3;", 1);
        Check.faulty("^99999", 1);
        Check.faulty(TWO + "sun 1 is 9 ^99999;", 1);
        Check.faulty(RIVER + Tell.village(9, 9).repeat(6) + "sun 1 is 9 ^" + Tell.village(9, 9), 1);
        Check.faulty(TWO + LINES[4].repeat(3) + "sun ^flood 0 brings 1 odds 1;", 1);
    }

    private static void endPlace() {
        Check.sentence("I: FAULTS, its place (the end's)");
        Check.faulty("river^", 1);
        Check.faulty("river weeks^", 1);
        Check.faulty("river weeks 4 more 0 back 3^", 1);
        Check.faulty(RIVER + "sun 0^", 1);
        // A number that is out of its bounds is so at its own place, also at the end.
        Check.faulty("river weeks ^3", 2);
        Check.faulty("river weeks 4 more 0 back ^4", 2);
    }
}
