/** Promises 16 and 17: budget and budgeted. */
public final class BudgetTest {
    private static final int MIN = Integer.MIN_VALUE;
    private static final int MAX = Integer.MAX_VALUE;

    public static void main(String[] args) {
        Due due = new Due();
        neverSet(due);
        sumsFrom0To100000000(due);
        ofEachOwner(due);
        setAnew(due);
        theHoursFromTo(due);
        budgetRefused(due);
        spentUpToNow(due);
        theSumAndSpent(due);
        aboveTheSum(due);
        notWithinIt(due);
        ofItsCosts(due);
        theLast24Hours(due);
        laidLikewise(due);
        theFirstHour(due);
        atItsEnd(due);
        aBudgetThatIsOver(due);
        inTheLastHour(due);
        theGreatestCosts(due);
        noSuchBudget(due);
        due.end();
    }

    private static void budget(Due due, BillWatch x, int o, int... facts) {
        for (int what = 0; what < facts.length; what++) {
            due.is("budgeted(" + o + ", " + what + ")", x.budgeted(o, what), facts[what]);
        }
    }

    private static void neverSet(Due due) {
        due.says("Terms", "A BUDGET of an OWNER: a sum (0 .. 100000000, at first 0)");
        BillWatch x = new BillWatch();
        x.begin(0, 10);
        for (int o = 0; o < 4; o++) {
            budget(due, x, o, 0, 0, -1, -1, 0, 0);
        }
        x.hours(30);
        for (int o = 0; o < 4; o++) {
            budget(due, x, o, 0, 0, -1, -1, 0, 0);
        }
    }

    private static void sumsFrom0To100000000(Due due) {
        due.says("Terms", "a sum (0 .. 100000000");
        BillWatch x = new BillWatch();
        x.begin(0, 10);
        due.no("budget(0, -1, 0, 1)", x.budget(0, -1, 0, 1));
        due.yes("budget(0, 0, 0, 1)", x.budget(0, 0, 0, 1));
        budget(due, x, 0, 0, 10, 0, 0, 10, 10);
        due.yes("budget(0, 100000000, 0, 2000)", x.budget(0, 100000000, 0, 2000));
        budget(due, x, 0, 100000000, 10, -1, -1, 20000, 20000);
        due.no("budget(0, 100000001, 0, 2000)", x.budget(0, 100000001, 0, 2000));
        due.is("budgeted(0, 0)", x.budgeted(0, 0), 100000000);
    }

    private static void ofEachOwner(Due due) {
        due.says("Promise 16", "A BUDGET: true;");
        BillWatch x = new BillWatch();
        for (int o = 0; o < 4; o++) {
            x.owner(o, o);
            x.begin(o, 10 + o);
            due.yes("budget(" + o + ", ..)", x.budget(o, 100 * (o + 1), o, 2 * o + 2));
        }
        budget(due, x, 0, 100, 10, -1, -1, 20, 20);
        budget(due, x, 1, 200, 0, -1, -1, 33, 33);
        budget(due, x, 2, 300, 0, -1, -1, 48, 48);
        budget(due, x, 3, 400, 0, -1, -1, 65, 65);
    }

    private static void setAnew(Due due) {
        due.says("Promise 16", "A BUDGET: true;");
        BillWatch x = new BillWatch();
        x.begin(0, 10);
        x.budget(0, 25, 0, 10);
        budget(due, x, 0, 25, 10, 2, 2, 100, 100);
        x.hours(5);
        due.yes("another sum and other hours", x.budget(0, 5, 4, 6));
        budget(due, x, 0, 5, 20, 4, 4, 20, 20);
    }

    private static void theHoursFromTo(Due due) {
        due.says("Terms", "for the HOURS from .. to - 1.");
        BillWatch x = new BillWatch();
        for (int h = 0; h < 6; h++) {
            x.use(0, 1 << h);
            x.hours(1);
        }
        x.budget(0, 1000, 1, 4);
        due.is("hours 1 2 3", x.budgeted(0, 1), 2 + 4 + 8);
        x.budget(0, 1000, 0, 1);
        due.is("hour 0 alone", x.budgeted(0, 1), 1);
        x.budget(0, 1000, 5, 6);
        due.is("hour 5 alone", x.budgeted(0, 1), 32);
        x.budget(0, 1000, 0, 6);
        due.is("all of them", x.budgeted(0, 1), 63);
    }

    private static void budgetRefused(Due due) {
        due.says("Promise 16", "false, and nothing is done, if one can't be (from below to, to 2000 at most).");
        BillWatch x = new BillWatch();
        due.yes("budget(0, 1, 1999, 2000)", x.budget(0, 1, 1999, 2000));
        due.yes("budget(0, 1, 0, 2000)", x.budget(0, 1, 0, 2000));
        due.yes("budget(0, 1, 4, 5)", x.budget(0, 1, 4, 5));
        Twins twins = new Twins();
        int[][] wrong = {{-1, 1, 0, 5}, {4, 1, 0, 5}, {MIN, 1, 0, 5}, {MAX, 1, 0, 5}, {0, -1, 0, 5},
            {0, 100000001, 0, 5}, {0, MIN, 0, 5}, {0, MAX, 0, 5}, {0, 1, -1, 5}, {0, 1, -2, -1}, {0, 1, -1, 0},
            {0, 1, 0, 0}, {0, 1, 5, 5}, {0, 1, 6, 5}, {0, 1, 0, 2001}, {0, 1, 2000, 2000}, {0, 1, 2000, 2001},
            {0, 1, MIN, 5}, {0, 1, MAX, 5}, {0, 1, 0, MIN}, {0, 1, 0, MAX}, {0, 1, MAX, MIN}, {0, 1, MIN, MAX},
            {1, 7, 5, 5}, {3, -7, 0, 9}};
        for (int[] w : wrong) {
            due.no("budget(" + w[0] + ", " + w[1] + ", " + w[2] + ", " + w[3] + ")",
                    twins.teased.budget(w[0], w[1], w[2], w[3]));
        }
        twins.alike(due);
    }

    private static void spentUpToNow(Due due) {
        due.says("Terms", "SPENT is what is LAID for those of them that are up to now.");
        BillWatch x = new BillWatch();
        x.begin(0, 10);
        x.budget(0, 1000, 3, 8);
        int[] spent = {0, 0, 0, 10, 20, 30, 40, 50, 50, 50};
        for (int h = 0; h < spent.length; h++) {
            due.is("spent at " + h, x.budgeted(0, 1), spent[h]);
            due.is("at its end, told at " + h, x.budgeted(0, 4), 50);
            x.hours(1);
        }
        BillWatch y = new BillWatch();
        y.budget(0, 1000, 0, 2);
        y.use(0, 5);
        due.is("now, as it is now", y.budgeted(0, 1), 5);
        y.use(0, 4);
        due.is("and with more used", y.budgeted(0, 1), 9);
    }

    private static void theSumAndSpent(Due due) {
        due.says("Promise 17", "Of OWNER o's BUDGET what 0 the sum, 1 SPENT,");
        BillWatch x = new BillWatch();
        x.owner(3, 2);
        x.use(3, 11);
        x.use(0, 7);
        x.budget(2, 60, 0, 9);
        x.budget(0, 70, 0, 9);
        due.is("budgeted(2, 0)", x.budgeted(2, 0), 60);
        due.is("budgeted(2, 1)", x.budgeted(2, 1), 11);
        due.is("budgeted(0, 0)", x.budgeted(0, 0), 70);
        due.is("budgeted(0, 1)", x.budgeted(0, 1), 7);
        x.owner(3, 0);
        due.is("of another owner: budgeted(2, 1)", x.budgeted(2, 1), 0);
        due.is("of another owner: budgeted(0, 1)", x.budgeted(0, 1), 18);
    }

    private static void aboveTheSum(Due due) {
        due.says("Terms", "SPENT UP at low (high): the first HOUR with which what is LAID, and FORECAST low (high) "
                + "behind now, is above the sum.");
        BillWatch x = new BillWatch();
        x.begin(0, 10);
        x.hours(4);
        int[][] rows = {{0, 0}, {9, 0}, {10, 1}, {39, 3}, {40, 4}, {49, 4}, {50, 5}, {59, 5}, {60, 6}, {99, 9}};
        for (int[] row : rows) {
            x.budget(0, row[0], 0, 10);
            due.is("sum " + row[0] + " at low", x.budgeted(0, 2), row[1]);
            due.is("sum " + row[0] + " at high", x.budgeted(0, 3), row[1]);
        }
        x.budget(0, 15, 7, 10);
        budget(due, x, 0, 15, 0, 8, 8, 30, 30);
        x.use(0, 20);
        x.budget(0, 100, 4, 10);
        budget(due, x, 0, 100, 30, -1, 7, 80, 180);
    }

    private static void notWithinIt(Due due) {
        due.says("Promise 17", "2, 3 the HOUR at which it is SPENT UP at low, at high (NONE: not within it),");
        BillWatch x = new BillWatch();
        x.begin(0, 10);
        x.use(0, 5);
        x.budget(0, 104, 0, 10);
        budget(due, x, 0, 104, 15, 6, 6, 150, 150);
        x.hours(1);
        budget(due, x, 0, 104, 25, 9, 7, 105, 145);
        x.budget(0, 105, 0, 10);
        budget(due, x, 0, 105, 25, -1, 7, 105, 145);
        x.budget(0, 145, 0, 10);
        budget(due, x, 0, 145, 25, -1, -1, 105, 145);
        x.budget(0, 0, 9, 10);
        budget(due, x, 0, 0, 0, 9, 9, 10, 15);
        BillWatch nothing = new BillWatch();
        nothing.budget(0, 0, 0, 2000);
        budget(due, nothing, 0, 0, 0, -1, -1, 0, 0);
    }

    private static void ofItsCosts(Due due) {
        due.says("Terms", "FORECAST for an HOUR behind now, of a SERVICE: low is the least, high is the greatest of "
                + "its COSTS");
        BillWatch x = new BillWatch();
        x.use(0, 10);
        x.hours(1);
        x.use(1, 10);
        x.budget(0, 1000, 0, 4);
        // each hour cost 10 in all, but either service 0 .. 10
        budget(due, x, 0, 1000, 20, -1, -1, 20, 60);
        BillWatch y = new BillWatch();
        for (int cost : new int[] {7, 3, 9, 4}) {
            y.use(5, cost);
            y.hours(1);
        }
        y.use(5, 5);
        y.budget(0, 1000, 4, 6);
        budget(due, y, 0, 1000, 5, -1, -1, 8, 14);
    }

    private static void theLast24Hours(Due due) {
        due.says("Terms", "in the last 24 HOURS at most (up to now; now too),");
        BillWatch x = new BillWatch();
        x.begin(0, 20);
        x.use(0, 80);
        x.budget(0, 1000, 0, 100);
        budget(due, x, 0, 1000, 100, 10, 10, 10000, 10000);
        x.hours(23);
        // 100 in hour 0 is the 24th back
        budget(due, x, 0, 1000, 560, 46, 28, 560 + 76 * 20, 560 + 76 * 100);
        x.hours(1);
        budget(due, x, 0, 1000, 580, 46, 46, 580 + 75 * 20, 580 + 75 * 20);
        x.use(0, 30);
        budget(due, x, 0, 1000, 610, 44, 32, 610 + 75 * 20, 610 + 75 * 50);
        x.stop(0);
        budget(due, x, 0, 1000, 590, 45, 38, 590 + 75 * 20, 590 + 75 * 30);
        x.hours(1);
        budget(due, x, 0, 1000, 590, -1, 39, 590, 590 + 74 * 30);
        Due.pass(x, 22);
        budget(due, x, 0, 1000, 590, -1, 61, 590, 590 + 52 * 30);
        x.hours(1);
        budget(due, x, 0, 1000, 590, -1, -1, 590, 590);
        BillWatch low = new BillWatch();
        low.hours(1);
        low.begin(0, 20);
        low.budget(0, 1000, 0, 100);
        low.hours(22);
        due.is("nothing in hour 0, the 24th back", low.budgeted(0, 4), 23 * 20);
        low.hours(1);
        due.is("the 25th back", low.budgeted(0, 4), 99 * 20);
    }

    private static void laidLikewise(Due due) {
        due.says("Terms", "LAID likewise.");
        BillWatch x = new BillWatch();
        x.use(0, 11);
        x.hours(1);
        x.use(0, 20);
        x.share(0, 1, 2, 4, 0);
        for (int o = 0; o < 4; o++) {
            x.budget(o, 100, 1, 4);
        }
        // sevenths of 20: 20 (rest 6), 40 (rest 5), 80 (rest 3): 3 6 11; of 11: 11 (rest 4), 22 (rest 1), 44 (rest 2): 2 3 6
        budget(due, x, 0, 100, 3, -1, -1, 3 + 2 * 2, 3 + 2 * 3);
        budget(due, x, 1, 100, 6, -1, -1, 6 + 2 * 3, 6 + 2 * 6);
        budget(due, x, 2, 100, 11, -1, -1, 11 + 2 * 6, 11 + 2 * 11);
        budget(due, x, 3, 100, 0, -1, -1, 0, 0);
        BillWatch y = new BillWatch();
        y.use(1, 6);
        y.hours(1);
        y.use(1, 8);
        y.owner(1, 3);
        y.budget(3, 100, 0, 4);
        budget(due, y, 3, 100, 14, -1, -1, 14 + 2 * 6, 14 + 2 * 8);
        BillWatch less = new BillWatch();
        less.use(0, 3);
        less.hours(1);
        less.use(0, 4);
        less.share(0, 0, 1, 3, 3);
        less.budget(1, 100, 0, 4);
        less.budget(2, 100, 0, 4);
        // sevenths of 3: 3 (rest 3), 9 (rest 2) twice: 1 1 1; of 4: 4 (rest 4), 12 (rest 5) twice: 0 2 2
        budget(due, less, 1, 100, 1, -1, -1, 1 + 2 * 1, 1 + 2 * 0);
        budget(due, less, 2, 100, 3, -1, -1, 3 + 2 * 1, 3 + 2 * 2);
    }

    private static void theFirstHour(Due due) {
        due.says("Terms", "the first HOUR with which what is LAID");
        BillWatch x = new BillWatch();
        x.use(0, 50);
        x.hours(3);
        x.use(0, 1);
        x.budget(0, 50, 0, 10);
        budget(due, x, 0, 50, 51, 3, 3, 51, 51 + 6 * 50);
        x.budget(0, 49, 0, 10);
        budget(due, x, 0, 49, 51, 0, 0, 51, 51 + 6 * 50);
        x.budget(0, 51, 0, 10);
        budget(due, x, 0, 51, 51, -1, 4, 51, 51 + 6 * 50);
        x.budget(0, 0, 1, 10);
        budget(due, x, 0, 0, 1, 3, 3, 1, 1 + 6 * 50);
    }

    private static void atItsEnd(Due due) {
        due.says("Promise 17", "4, 5 what is LAID at its end at low, at high.");
        BillWatch x = new BillWatch();
        x.begin(0, 10);
        x.use(0, 5);
        x.hours(4);
        int[][] rows = {{0, 5, 55, 55}, {0, 6, 65, 70}, {0, 2000, 55 + 1995 * 10, 55 + 1995 * 15}, {4, 6, 20, 25},
            {5, 6, 10, 15}, {6, 8, 20, 30}, {0, 1, 15, 15}, {1, 4, 30, 30}, {1999, 2000, 10, 15}};
        for (int[] row : rows) {
            x.budget(0, 20, row[0], row[1]);
            due.is("hours " + row[0] + " .. " + row[1] + " - 1 at low", x.budgeted(0, 4), row[2]);
            due.is("hours " + row[0] + " .. " + row[1] + " - 1 at high", x.budgeted(0, 5), row[3]);
        }
    }

    private static void aBudgetThatIsOver(Due due) {
        due.says("Terms", "those of them that are up to now.");
        BillWatch x = new BillWatch();
        x.begin(0, 10);
        x.budget(0, 25, 1, 4);
        x.hours(3);
        budget(due, x, 0, 25, 30, 3, 3, 30, 30);
        x.use(0, 4);
        budget(due, x, 0, 25, 34, 3, 3, 34, 34);
        x.hours(37);
        budget(due, x, 0, 25, 34, 3, 3, 34, 34);
        x.owner(0, 2);
        budget(due, x, 0, 25, 0, -1, -1, 0, 0);
    }

    private static void inTheLastHour(Due due) {
        due.says("Terms", "HOURS 0 .. 1999");
        BillWatch x = new BillWatch();
        x.begin(0, 10);
        x.budget(0, 19999, 0, 2000);
        budget(due, x, 0, 19999, 10, 1999, 1999, 20000, 20000);
        Due.pass(x, 1999);
        budget(due, x, 0, 19999, 20000, 1999, 1999, 20000, 20000);
        x.budget(0, 9, 1999, 2000);
        budget(due, x, 0, 9, 10, 1999, 1999, 10, 10);
        x.budget(0, 10, 1999, 2000);
        budget(due, x, 0, 10, 10, -1, -1, 10, 10);
    }

    private static void theGreatestCosts(Due due) {
        due.says("Terms", "100000000");
        BillWatch x = new BillWatch();
        for (int m = 0; m < 40; m++) {
            x.begin(0, 999);
        }
        for (int s = 0; s < 6; s++) {
            for (int i = 0; i < 10; i++) {
                x.use(s, 9999);
            }
            x.use(s, 9);
        }
        x.budget(0, 100000000, 0, 2000);
        int hourly = 6 * 99999 + 40 * 999;
        budget(due, x, 0, 100000000, hourly, 156, 156, 2000 * hourly, 2000 * hourly);
    }

    private static void noSuchBudget(Due due) {
        due.says("Promise 17", "NONE if one can't be.");
        BillWatch x = new BillWatch();
        x.begin(0, 10);
        x.budget(0, 50, 0, 10);
        for (int w : new int[] {-1, 6, MIN, MAX}) {
            for (int o = 0; o < 4; o++) {
                due.is("budgeted(" + o + ", " + w + ")", x.budgeted(o, w), -1);
            }
        }
        for (int w : new int[] {-1, 4, MIN, MAX}) {
            for (int what = 0; what < 6; what++) {
                due.is("budgeted(" + w + ", " + what + ")", x.budgeted(w, what), -1);
            }
        }
    }
}
