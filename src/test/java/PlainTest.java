/** Promises 1 to 6 and 38: a new object, the TAPE, the PLAIN and its FAULTS. */
public final class PlainTest {
    private static final String RIVER = "river weeks 5 more 20 back 3;";
    private static final String VILLAGE = "village pond 30 water 10 face 20 seep 2;";
    private static final String CROP = "crop 0 drinks 3 brings 5 from 1 to 3;";
    private static final String FLOOD = "flood 1 brings 15 odds 40;";
    private static final String LOAN = "loan 0 to 1 of 5 on 0 till 2;";
    private static final String TWO = RIVER + VILLAGE + VILLAGE;

    public static void main(String[] args) {
        newObject();
        tape();
        plainInPlace();
        blanksAndTokens();
        faultsOfStanding();
        faultsOfBounds();
        faultsOfMany();
        faultStaysAndGoes();
        village();
        count();
        Check.close("PlainTest");
    }

    private static void newObject() {
        FloodLent x = new FloodLent();
        Check.due("NONE", FloodLent.NONE, -1);
        for (int what = 0; what < 10; what++) {
            Check.due("count(" + what + ") of a new object", x.count(what), 0);
        }
        Check.due("village(0, 0) of a new object", x.village(0, 0), -2);
        Check.due("takes(0, -1) of a new object", x.takes(0, -1), -2);
        Check.due("sum(0) of a new object", x.sum(0), -2);
        Check.due("share(0) of a new object", x.share(0), -2);
        Check.due("restore(0) of a new object", x.restore(0), -6);
        Check.due("write(0, 0, 1) of a new object", x.write(0, 0, 1), -6);
    }

    private static void tape() {
        FloodLent x = new FloodLent();
        Check.due("end(0) of nothing", x.end(0), 0);
        Check.due("end(1) of nothing", x.end(1), -1);
        Check.due("feed", x.feed(0x72697665, 0x72207765, 0x656b7320, 0x34206d6f, 0x72652030), 20);
        Check.due("feed", x.feed(0x20626163, 0x6b20303b, 0xffffffff, 0x80808080, 0), 40);
        Check.due("end(41)", x.end(41), -1);
        Check.due("end(-1)", x.end(-1), -1);
        Check.due("bytes, nothing happened", x.count(6), 40);
        Check.due("end(28)", x.end(28), 28);
        Check.due("bytes", x.count(6), 28);
        Check.due("plain()", x.plain(), 1);
        Check.due("weeks", x.count(0), 4);
        Check.due("bytes after plain()", x.count(6), 0);
        for (int i = 1; i <= 80; i++) {
            Check.due("feed " + i, x.feed(0, 0, 0, 0, 0), 20 * i);
        }
        Check.due("feed beyond 1,600", x.feed(0, 0, 0, 0, 0), -1);
        Check.due("bytes", x.count(6), 1600);
        Check.due("end(1581)", x.end(1581), 1581);
        Check.due("feed to 1,601", x.feed(0, 0, 0, 0, 0), -1);
        Check.due("none came", x.count(6), 1581);
        Check.due("end(1580)", x.end(1580), 1580);
        Check.due("feed to 1,600", x.feed(0, 0, 0, 0, 0), 1600);
        Check.due("plain() of zeros", x.plain(), -4);
        Check.due("its FAULT", x.fault(0), 1);
        Check.due("its place", x.fault(1), 0);
        Check.due("bytes after a FAULT", x.count(6), 0);
    }

    private static void plainInPlace() {
        FloodLent x = Check.with(TWO + FLOOD);
        x.takes(0, 1);
        Check.due("another PLAIN", Check.plain(x, RIVER + VILLAGE + FLOOD + "sun 1 is 9;"), 4);
        Check.due("its VILLAGES", x.count(1), 1);
        Check.due("nobody takes", x.takes(0, 0), -1);
        Check.due("a FAULT", Check.plain(x, RIVER + VILLAGE + "flood"), -4);
        Check.due("the PLAIN stays", x.count(5), 4);
        Check.due("TAKERS stay", x.takes(0, -1), 0);
        Check.due("more of it", x.count(7), 20);
        Check.due("back of it", x.count(8), 3);
        Check.due("an empty TAPE", x.plain(), 0);
        for (int what = 0; what < 10; what++) {
            Check.due("count(" + what + ") of an empty TAPE", x.count(what), 0);
        }
        Check.due("no LINES", x.count(5), 0);
        Check.due("no VILLAGES", x.count(1), 0);
        Check.due("no PLAIN", x.first(), -2);
        Check.due("FAULT of none", x.fault(0), 0);
        Check.due("place of none", x.fault(1), -1);
        Check.due("blanks alone", Check.plain(x, " \n  \n"), 0);
        Check.due("FAULT of blanks", x.fault(0), 0);
        Check.due("still no PLAIN", x.sum(0), -2);
        // Nothing of an earlier PLAIN is in a later one.
        Check.plain(x, TWO + CROP + LOAN + "sun 0 is 99; sun 3 is 99; canal 0 costs 9; canal 1 costs 9;");
        Check.due("the SKY", x.sum(3) > 0 ? 1 : 0, 1);
        Check.plain(x, TWO);
        Check.due("CROPS", x.count(2), 0);
        Check.due("LOANS", x.count(4), 0);
        Check.due("no sun", x.sum(3), 0);
        Check.due("no canal", x.village(0, 4) + x.village(1, 4), 0);
    }

    private static void wrong(String text, int fault, int place) {
        FloodLent x = new FloodLent();
        Check.due("plain() of " + text, Check.plain(x, text), -4);
        Check.due("fault(0) of " + text, x.fault(0), fault);
        Check.due("fault(1) of " + text, x.fault(1), place);
        Check.due("fault(2) of " + text, x.fault(2), -1);
        Check.due("fault(-1) of " + text, x.fault(-1), -1);
        Check.due("bytes behind " + text, x.count(6), 0);
    }

    private static void blanksAndTokens() {
        Check.fine(" \nriver\nweeks  4 more 0 back 3 ; \n", 1);
        Check.fine("river weeks4more0back3;village pond9999water9999face99seep99;", 2);
        Check.fine("river weeks 00000000000000000004 more 000 back 03;", 1);
        wrong("riverweeks 4 more 0 back 3;", 1, 0);
        wrong("riverz weeks 4 more 0 back 3;", 1, 0);
        wrong("arriver weeks 4 more 0 back 3;", 1, 0);
        wrong("riv er weeks 4 more 0 back 3;", 1, 0);
        wrong("river weeks 4 more 1 0 back 3;", 1, 21);
        wrong("river weeks 4 more 0 back 3;\tsun 0 is 1;", 1, 28);
        wrong("river weeks 4 more 0 back 3;\rsun 0 is 1;", 1, 28);
        wrong("River weeks 4 more 0 back 3;", 1, 0);
        wrong("river weeks 4 more -1 back 3;", 1, 19);
        wrong("river weeks 4 more 0 back 3,", 1, 27);
        wrong("river weeks 4 more 0 back 3;\u00e9", 1, 28);
    }

    private static void faultsOfStanding() {
        wrong(";", 1, 0);
        wrong(" 4", 1, 1);
        wrong("village pond 1 water 1 face 1 seep 1;", 1, 0);
        wrong(RIVER + " " + RIVER, 1, RIVER.length() + 1);
        wrong(RIVER + "lake 1;", 1, RIVER.length());
        wrong(RIVER + ";", 1, RIVER.length());
        wrong("river week 4 more 0 back 3;", 1, 6);
        wrong("river weeks weeks 4 more 0 back 3;", 1, 12);
        wrong("river 4 more 0 back 3;", 1, 6);
        wrong("river weeks 4 more 0 back 3 3;", 1, 28);
        wrong("river weeks 4 more 0 back 3", 1, 27);
        wrong("river weeks 4 more 0 back 3 \n ", 1, 30);
        wrong("river", 1, 5);
        wrong("river weeks 4 more 0 back", 1, 25);
        wrong("river weeks 4 more 0 back;", 1, 25);
        wrong(TWO + "loan 0 to 1 of 5 on 0 till;", 1, TWO.length() + 26);
    }

    private static void faultsOfBounds() {
        for (String bad : new String[] {"weeks 3 ", "weeks 31 ", "weeks 99999999999999999999 "}) {
            wrong("river " + bad + "more 0 back 0;", 2, 12);
        }
        Check.fine("river weeks 30 more 100 back 29;", 1);
        wrong("river weeks 30 more 101 back 29;", 2, 20);
        wrong("river weeks 30 more 100 back 30;", 2, 29);
        bound("village pond ", 0, 9999, " water 0 face 0 seep 0;");
        bound("village pond 7 water ", 0, 7, " face 0 seep 0;");
        bound("village pond 7 water 1 face ", 0, 99, " seep 0;");
        bound("village pond 7 water 1 face 2 seep ", 0, 99, ";");
        bound("crop ", 0, 1, " drinks 3 brings 5 from 1 to 3;");
        bound("crop 0 drinks ", 1, 99, " brings 5 from 1 to 3;");
        bound("crop 0 drinks 3 brings ", 0, 99, " from 1 to 3;");
        bound("crop 0 drinks 3 brings 5 from ", 0, 4, " to 4;");
        bound("crop 0 drinks 3 brings 5 from 2 to ", 2, 4, ";");
        bound("sun ", 0, 4, " is 1;");
        bound("sun 0 is ", 0, 99, ";");
        bound("flood ", 0, 4, " brings 1 odds 1;");
        bound("flood 0 brings ", 0, 9999, " odds 1;");
        bound("flood 0 brings 1 odds ", 0, 100, ";");
        bound("loan ", 1, 1, " to 0 of 1 on 0 till 4;");
        bound("loan 1 to ", 0, 0, " of 1 on 0 till 4;");
        bound("loan 0 to 1 of ", 1, 9999, " on 0 till 4;");
        Check.fine(TWO + "loan 0 to 1 of 1 on 0 till 4;", 4);
        Check.fine(TWO + "loan 0 to 1 of 1 on 3 till 4;", 4);
        wrong(TWO + "loan 0 to 1 of 1 on 5 till 4;", 2, TWO.length() + 20);
        bound("loan 0 to 1 of 1 on 2 till ", 3, 4, ";");
        bound("canal ", 0, 1, " costs 1;");
        bound("canal 0 costs ", 0, 9999, ";");
        // The last WEEK is one, but no till can be above it.
        wrong(TWO + "loan 0 to 1 of 1 on 4 till 4;", 2, TWO.length() + 27);
        // VILLAGES are told ahead.
        wrong(RIVER + "crop 0 drinks 3 brings 5 from 1 to 3;" + VILLAGE, 2, RIVER.length() + 5);
    }

    /** Of a number that stands between two texts, the least and the most are fine, one less and one more are not. */
    private static void bound(String ahead, int least, int most, String behind) {
        Check.fine(TWO + ahead + least + behind, 4);
        Check.fine(TWO + ahead + most + behind, 4);
        int place = TWO.length() + ahead.length();
        // A loan's first VILLAGE 0 is one, but the other one is then at FAULT.
        if (least > 0 && !ahead.equals("loan ")) {
            wrong(TWO + ahead + (least - 1) + behind, 2, place);
        }
        wrong(TWO + ahead + (most + 1) + behind, 2, place);
    }

    private static void faultsOfMany() {
        Check.fine(RIVER + VILLAGE.repeat(6), 7);
        wrong(RIVER + VILLAGE.repeat(6) + "village", 3, RIVER.length() + 6 * VILLAGE.length());
        Check.fine(TWO + CROP.repeat(8), 11);
        wrong(TWO + CROP.repeat(8) + CROP, 3, TWO.length() + 8 * CROP.length());
        Check.fine(TWO + FLOOD.repeat(3), 6);
        wrong(TWO + FLOOD.repeat(4), 3, TWO.length() + 3 * FLOOD.length());
        Check.fine(TWO + LOAN.repeat(8), 11);
        wrong(TWO + LOAN.repeat(8) + "loan 9", 3, TWO.length() + 8 * LOAN.length());
        Check.fine(RIVER + "sun 4 is 9;".repeat(40), 41);
        // The first by its place counts, not the least.
        wrong(RIVER + "sun 5 is 9; lake", 2, RIVER.length() + 4);
    }

    private static void faultStaysAndGoes() {
        FloodLent x = new FloodLent();
        Check.due("fault(0) ahead of any", x.fault(0), 0);
        Check.due("fault(1) ahead of any", x.fault(1), -1);
        Check.plain(x, RIVER + "sun 5 is 9;");
        Check.feed(x, "river");
        x.image(0);
        x.restore(0);
        Check.due("fault(0) of the latest", x.fault(0), 2);
        Check.due("fault(1) of the latest", x.fault(1), RIVER.length() + 4);
        x.end(0);
        Check.plain(x, RIVER);
        Check.due("fault(0) of a fine one", x.fault(0), 0);
        Check.due("fault(1) of a fine one", x.fault(1), -1);
    }

    private static void village() {
        FloodLent x = Check.with(RIVER + "village pond 30 water 10 face 20 seep 2;" + "canal 0 costs 8;"
            + "village pond 25 water 4 face 11 seep 1;" + "canal 0 costs 7;");
        int[][] due = {{30, 10, 20, 2, 7}, {25, 4, 11, 1, 0}};
        for (int v = 0; v < 2; v++) {
            for (int what = 0; what < 5; what++) {
                Check.due("village(" + v + ", " + what + ")", x.village(v, what), due[v][what]);
            }
        }
        Check.due("village(2, 0)", x.village(2, 0), -2);
        Check.due("village(-1, 0)", x.village(-1, 0), -2);
        Check.due("village(0, 5)", x.village(0, 5), -2);
        Check.due("village(0, -1)", x.village(0, -1), -2);
    }

    private static void count() {
        FloodLent x = Check.with(TWO + CROP + CROP + CROP + FLOOD + LOAN + "sun 1 is 4;");
        Check.feed(x, "river");
        x.row(1, 0, 0);
        x.row(3, 0, 4);
        x.row(3, 1, 5);
        int[] due = {5, 2, 3, 1, 1, 9, 5, 20, 3, 2};
        for (int what = 0; what < due.length; what++) {
            Check.due("count(" + what + ")", x.count(what), due[what]);
        }
        Check.due("count(10)", x.count(10), -1);
        Check.due("count(-1)", x.count(-1), -1);
        x.more(30);
        Check.due("count(7) by more()", x.count(7), 30);
    }
}
