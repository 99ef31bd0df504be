/** Promises 16 and 17: budget and budgeted. */
public final class BudgetTest {
    public static void main(String[] args) {
        Due due = new Due();
        atFirst(due);
        wrongBudgets(due);
        edgesOfABudget(due);
        spentUpToNow(due);
        spentUp(due);
        forecastOfTheLast24Hours(due);
        forecastService(due);
        forecastIsLaidByShares(due);
        aBudgetThatIsOver(due);
        theGreatestCosts(due);
        wrongAsks(due);
        due.end();
    }

    private static void budget(Due due, BillWatch x, int o, int... facts) {
        for (int what = 0; what < facts.length; what++) {
            due.is("budgeted(" + o + ", " + what + ")", x.budgeted(o, what), facts[what]);
        }
    }

    private static void atFirst(Due due) {
        BillWatch x = new BillWatch();
        x.begin(0, 10);
        for (int o = 0; o < 4; o++) {
            budget(due, x, o, 0, 0, -1, -1, 0, 0);
        }
    }

    private static void wrongBudgets(Due due) {
        BillWatch x = new BillWatch();
        x.begin(0, 10);
        x.budget(0, 50, 0, 10);
        int min = Integer.MIN_VALUE;
        int max = Integer.MAX_VALUE;
        int[][] wrong = {{-1, 1, 0, 5}, {4, 1, 0, 5}, {0, -1, 0, 5}, {0, 100000001, 0, 5}, {0, 1, -1, 5},
            {0, 1, 5, 5}, {0, 1, 6, 5}, {0, 1, 0, 2001}, {0, 1, 2000, 2000}, {0, 1, -2, -1}, {min, 1, 0, 5},
            {max, 1, 0, 5}, {0, min, 0, 5}, {0, max, 0, 5}, {0, 1, min, 5}, {0, 1, max, 5}, {0, 1, 0, min},
            {0, 1, 0, max}, {0, 1, max, min}};
        for (int[] w : wrong) {
            due.no("budget(" + w[0] + ", " + w[1] + ", " + w[2] + ", " + w[3] + ")",
                    x.budget(w[0], w[1], w[2], w[3]));
            budget(due, x, 0, 50, 10, 5, 5, 100, 100);
        }
    }

    private static void edgesOfABudget(Due due) {
        BillWatch x = new BillWatch();
        x.begin(0, 10);
        due.yes("budget(0, 0, 0, 1)", x.budget(0, 0, 0, 1));
        budget(due, x, 0, 0, 10, 0, 0, 10, 10);
        due.yes("budget(0, 100000000, 0, 2000)", x.budget(0, 100000000, 0, 2000));
        budget(due, x, 0, 100000000, 10, -1, -1, 20000, 20000);
        due.yes("budget(0, 0, 1999, 2000)", x.budget(0, 0, 1999, 2000));
        budget(due, x, 0, 0, 0, 1999, 1999, 10, 10);
        due.yes("budget(3, 7, 4, 5)", x.budget(3, 7, 4, 5));
        budget(due, x, 3, 7, 0, -1, -1, 0, 0);
        budget(due, x, 1, 0, 0, -1, -1, 0, 0);
    }

    private static void spentUpToNow(Due due) {
        BillWatch x = new BillWatch();
        x.begin(0, 10);
        x.budget(0, 1000, 3, 8);
        int[] spent = {0, 0, 0, 10, 20, 30, 40, 50, 50, 50};
        for (int h = 0; h < spent.length; h++) {
            due.is("spent at " + h, x.budgeted(0, 1), spent[h]);
            due.is("at its end, told at " + h, x.budgeted(0, 4), 50);
            x.hours(1);
        }
    }

    private static void spentUp(Due due) {
        BillWatch x = new BillWatch();
        x.begin(0, 10);
        x.hours(4);
        int[][] rows = {{0, 0}, {9, 0}, {10, 1}, {49, 4}, {50, 5}, {59, 5}, {60, 6}, {99, 9}, {100, -1}};
        for (int[] row : rows) {
            x.budget(0, row[0], 0, 10);
            due.is("sum " + row[0] + " at low", x.budgeted(0, 2), row[1]);
            due.is("sum " + row[0] + " at high", x.budgeted(0, 3), row[1]);
        }
        x.budget(0, 15, 7, 10);
        budget(due, x, 0, 15, 0, 8, 8, 30, 30);
    }

    private static void forecastOfTheLast24Hours(Due due) {
        BillWatch x = new BillWatch();
        x.begin(0, 20);
        x.use(0, 80);
        x.budget(0, 1000, 0, 100);
        x.hours(23);
        // 100 in hour 0 is the 24th back
        budget(due, x, 0, 1000, 560, 46, 28, 560 + 76 * 20, 560 + 76 * 100);
        x.hours(1);
        budget(due, x, 0, 1000, 580, 46, 46, 580 + 75 * 20, 580 + 75 * 20);
        x.use(0, 30);
        budget(due, x, 0, 1000, 610, 44, 32, 610 + 75 * 20, 610 + 75 * 50);
        x.stop(0);
        budget(due, x, 0, 1000, 590, 45, 38, 590 + 75 * 20, 590 + 75 * 30);
        x.hours(1);
        budget(due, x, 0, 1000, 590, -1, 39, 590, 590 + 74 * 30);
        Due.pass(x, 22);
        budget(due, x, 0, 1000, 590, -1, 61, 590, 590 + 52 * 30);
        x.hours(1);
        budget(due, x, 0, 1000, 590, -1, -1, 590, 590);
    }

    private static void forecastService(Due due) {
        BillWatch x = new BillWatch();
        x.use(0, 10);
        x.hours(1);
        x.use(1, 10);
        x.budget(0, 1000, 0, 4);
        // each hour cost 10 in all, but either service 0 .. 10
        budget(due, x, 0, 1000, 20, -1, -1, 20, 60);
    }

    private static void forecastIsLaidByShares(Due due) {
        BillWatch x = new BillWatch();
        x.use(0, 11);
        x.hours(1);
        x.use(0, 20);
        x.share(0, 1, 2, 4, 0);
        for (int o = 0; o < 4; o++) {
            x.budget(o, 100, 1, 4);
        }
        // sevenths of 20: 20 (rest 6), 40 (rest 5), 80 (rest 3): 3 6 11; of 11: 11 (rest 4), 22 (rest 1), 44 (rest 2): 2 3 6
        budget(due, x, 0, 100, 3, -1, -1, 3 + 2 * 2, 3 + 2 * 3);
        budget(due, x, 1, 100, 6, -1, -1, 6 + 2 * 3, 6 + 2 * 6);
        budget(due, x, 2, 100, 11, -1, -1, 11 + 2 * 6, 11 + 2 * 11);
        budget(due, x, 3, 100, 0, -1, -1, 0, 0);
    }

    private static void aBudgetThatIsOver(Due due) {
        BillWatch x = new BillWatch();
        x.begin(0, 10);
        x.budget(0, 25, 1, 4);
        x.hours(40);
        budget(due, x, 0, 25, 30, 3, 3, 30, 30);
        x.owner(0, 2);
        budget(due, x, 0, 25, 0, -1, -1, 0, 0);
    }

    private static void theGreatestCosts(Due due) {
        BillWatch x = new BillWatch();
        for (int m = 0; m < 40; m++) {
            x.begin(0, 999);
        }
        for (int s = 0; s < 6; s++) {
            for (int i = 0; i < 10; i++) {
                x.use(s, 9999);
            }
            x.use(s, 9);
        }
        x.budget(0, 100000000, 0, 2000);
        int hourly = 6 * 99999 + 40 * 999;
        budget(due, x, 0, 100000000, hourly, 156, 156, 2000 * hourly, 2000 * hourly);
    }

    private static void wrongAsks(Due due) {
        BillWatch x = new BillWatch();
        x.begin(0, 10);
        x.budget(0, 50, 0, 10);
        for (int w : new int[] {-1, 6, Integer.MIN_VALUE, Integer.MAX_VALUE}) {
            due.is("budgeted(0, " + w + ")", x.budgeted(0, w), -1);
        }
        for (int w : new int[] {-1, 4, Integer.MIN_VALUE, Integer.MAX_VALUE}) {
            for (int what = 0; what < 6; what++) {
                due.is("budgeted(" + w + ", " + what + ")", x.budgeted(w, what), -1);
            }
        }
    }
}
