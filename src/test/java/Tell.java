/** The LINES of a PLAIN's text. */
final class Tell {
    private Tell() {
    }

    static String river(int weeks, int more, int back) {
        return "river weeks " + weeks + " more " + more + " back " + back + ";";
    }

    static String village(int pond, int water, int face, int seep) {
        return "village pond " + pond + " water " + water + " face " + face + " seep " + seep + ";";
    }

    /** A VILLAGE that the sun does not drink from and that does not seep. */
    static String village(int pond, int water) {
        return village(pond, water, 0, 0);
    }

    static String crop(int village, int drinks, int brings, int from, int to) {
        return "crop " + village + " drinks " + drinks + " brings " + brings + " from " + from + " to " + to + ";";
    }

    static String sun(int week, int is) {
        return "sun " + week + " is " + is + ";";
    }

    static String flood(int week, int brings, int odds) {
        return "flood " + week + " brings " + brings + " odds " + odds + ";";
    }

    static String loan(int lender, int debtor, int of, int on, int till) {
        return "loan " + lender + " to " + debtor + " of " + of + " on " + on + " till " + till + ";";
    }

    static String canal(int village, int costs) {
        return "canal " + village + " costs " + costs + ";";
    }

    /**
     * A text by which just these DEBTS are left (each a debtor, a creditor, how much): LOANS in WEEK 0,
     * behind which the SKY drinks all ponds empty; so nobody can pay anything.
     */
    static String debts(int villages, int[]... debts) {
        StringBuilder s = new StringBuilder(river(4, 0, 0)).append(village(9999, 49, 99, 0).repeat(villages));
        s.append(sun(0, 99));
        for (int[] debt : debts) {
            s.append(loan(debt[1], debt[0], debt[2], 0, 1));
        }
        return s.toString();
    }
}
