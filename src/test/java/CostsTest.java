/** Promises 6, 8 and 11: use, hours and cost. */
public final class CostsTest {
    public static void main(String[] args) {
        Due due = new Due();
        used(due);
        wrongUses(due);
        usedAtMost(due);
        hoursGoBy(due);
        theLastHour(due);
        wrongCosts(due);
        due.end();
    }

    private static void used(Due due) {
        BillWatch x = new BillWatch();
        x.begin(3, 100);
        due.yes("use(3, 0)", x.use(3, 0));
        due.yes("use(3, 9999)", x.use(3, 9999));
        due.yes("use(3, 1)", x.use(3, 1));
        due.yes("use(4, 8)", x.use(4, 8));
        due.is("cost(3, 0)", x.cost(3, 0), 10100);
        due.is("cost(4, 0)", x.cost(4, 0), 8);
        x.hours(1);
        due.is("cost(3, 1): used was of one hour", x.cost(3, 1), 100);
        due.is("cost(4, 1)", x.cost(4, 1), 0);
        x.use(3, 5);
        due.is("cost(3, 0) stays", x.cost(3, 0), 10100);
        due.is("cost(3, 1)", x.cost(3, 1), 105);
        x.hours(2);
        due.is("cost(3, 1) when over", x.cost(3, 1), 105);
        due.is("cost(3, 2)", x.cost(3, 2), 100);
    }

    private static void wrongUses(Due due) {
        BillWatch x = new BillWatch();
        int[][] wrong = {{-1, 5}, {6, 5}, {0, -1}, {0, 10000}, {Integer.MIN_VALUE, 5},
            {Integer.MAX_VALUE, 5}, {0, Integer.MIN_VALUE}, {0, Integer.MAX_VALUE}};
        for (int[] w : wrong) {
            due.no("use(" + w[0] + ", " + w[1] + ")", x.use(w[0], w[1]));
        }
        for (int s = 0; s < 6; s++) {
            due.is("cost(" + s + ", 0) after wrong uses", x.cost(s, 0), 0);
        }
    }

    private static void usedAtMost(Due due) {
        BillWatch x = new BillWatch();
        x.begin(0, 999);
        for (int i = 0; i < 10; i++) {
            due.yes("use(0, 9999) number " + i, x.use(0, 9999));
        }
        due.no("use(0, 10): 100000 in all", x.use(0, 10));
        due.yes("use(0, 9): 99999 in all", x.use(0, 9));
        due.no("use(0, 1)", x.use(0, 1));
        due.yes("use(0, 0)", x.use(0, 0));
        due.is("cost(0, 0): prices come on top", x.cost(0, 0), 100998);
        due.yes("use(1, 9999): another service", x.use(1, 9999));
        x.hours(1);
        due.yes("use(0, 9999) in the next hour", x.use(0, 9999));
        due.is("cost(0, 1)", x.cost(0, 1), 10998);
    }

    private static void hoursGoBy(Due due) {
        BillWatch x = new BillWatch();
        for (int n : new int[] {0, -1, 49, Integer.MIN_VALUE, Integer.MAX_VALUE}) {
            due.is("hours(" + n + ")", x.hours(n), -1);
        }
        due.is("look(0)", x.look(0), 0);
        due.is("hours(1)", x.hours(1), 1);
        due.is("hours(48)", x.hours(48), 49);
        due.is("look(0)", x.look(0), 49);
    }

    private static void theLastHour(Due due) {
        BillWatch x = new BillWatch();
        x.begin(5, 3);
        Due.pass(x, 1968);
        due.is("hours(32): beyond", x.hours(32), -1);
        due.is("look(0) after that", x.look(0), 1968);
        due.is("hours(31)", x.hours(31), 1999);
        due.is("hours(1) at the end", x.hours(1), -1);
        due.is("hours(48) at the end", x.hours(48), -1);
        due.is("cost(5, 1999)", x.cost(5, 1999), 3);
        due.is("cost(5, 2000)", x.cost(5, 2000), -1);
        due.is("season(5, 1999, 0)", x.season(5, 1999, 0), 3);
        due.is("laid(0, 0, 2000)", x.laid(0, 0, 2000), 6000);
        due.is("laid(0, 0, 2001)", x.laid(0, 0, 2001), -1);
        due.is("creeps(5)", x.creeps(5), 0);
        due.yes("use in the last hour", x.use(5, 4));
        due.is("cost(5, 1999)", x.cost(5, 1999), 7);
    }

    private static void wrongCosts(Due due) {
        BillWatch x = new BillWatch();
        x.hours(4);
        int[][] wrong = {{-1, 0}, {6, 0}, {0, -1}, {0, 5}, {Integer.MIN_VALUE, 0}, {Integer.MAX_VALUE, 0},
            {0, Integer.MIN_VALUE}, {0, Integer.MAX_VALUE}};
        for (int[] w : wrong) {
            due.is("cost(" + w[0] + ", " + w[1] + ")", x.cost(w[0], w[1]), -1);
        }
        due.is("cost(5, 4)", x.cost(5, 4), 0);
    }
}
