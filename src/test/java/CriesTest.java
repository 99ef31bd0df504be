/** Promise 14: cry, and what part 3 of the terms says of it. */
public final class CriesTest {
    public static void main(String[] args) {
        Due due = new Due();
        theServiceItself(due);
        theDearestOfTheNewest(due);
        aMachineOf23HoursAhead(due);
        whatRanInTheHour(due);
        theLastOfForty(due);
        onceForOneCause(due);
        sixHoursAgo(due);
        anotherCause(due);
        serviceByService(due);
        aHundredAtMost(due);
        wrongCries(due);
        due.end();
    }

    /** At hour 72 of a run without costs, so that every service has a season of nothing. */
    private static BillWatch calm() {
        BillWatch x = new BillWatch();
        Due.pass(x, 72);
        return x;
    }

    private static void facts(Due due, BillWatch x, int i, int... facts) {
        for (int what = 0; what < facts.length; what++) {
            due.is("cry(" + i + ", " + what + ")", x.cry(i, what), facts[what]);
        }
    }

    private static void theServiceItself(Due due) {
        BillWatch x = calm();
        x.use(4, 11);
        due.is("nothing is cried in the hour itself", x.look(3), 0);
        x.hours(1);
        due.is("look(3)", x.look(3), 1);
        due.is("look(4)", x.look(4), 1);
        facts(due, x, 0, 4, -1, 72, 72, 1);
        BillWatch y = calm();
        y.use(4, 10);
        y.hours(1);
        due.is("10 is not above the floor", y.look(3), 0);
        BillWatch z = new BillWatch();
        z.hours(47);
        z.hours(24);
        z.use(0, 9999);
        z.hours(1);
        due.is("no cry without a season", z.look(3), 0);
    }

    private static void theDearestOfTheNewest(Due due) {
        BillWatch x = calm();
        x.begin(2, 30);
        x.begin(2, 50);
        x.begin(2, 50);
        x.begin(2, 40);
        x.begin(1, 5);
        x.hours(1);
        due.is("look(3)", x.look(3), 1);
        facts(due, x, 0, 2, 1, 72, 72, 1);
    }

    private static void aMachineOf23HoursAhead(Due due) {
        BillWatch x = calm();
        x.begin(0, 10);
        x.hours(23);
        due.is("its own price is no jump", x.look(3), 0);
        x.use(0, 5);
        x.hours(1);
        facts(due, x, 0, 0, 0, 95, 95, 1);
        BillWatch y = calm();
        y.begin(0, 10);
        y.hours(24);
        y.use(0, 500);
        y.hours(1);
        facts(due, y, 0, 0, -1, 96, 96, 1);
    }

    private static void whatRanInTheHour(Due due) {
        BillWatch x = calm();
        x.begin(3, 100);
        x.begin(3, 20);
        x.stop(0);
        x.hours(1);
        facts(due, x, 0, 3, 1, 72, 72, 1);
        x.stop(1);
        x.use(3, 60);
        x.hours(1);
        facts(due, x, 1, 3, -1, 73, 73, 1);
        facts(due, x, 0, 3, 1, 72, 72, 1);
    }

    private static void theLastOfForty(Due due) {
        BillWatch x = calm();
        for (int m = 0; m < 39; m++) {
            x.begin(m % 6, 1);
        }
        x.begin(5, 999);
        x.hours(1);
        due.is("look(3)", x.look(3), 1);
        facts(due, x, 0, 5, 39, 72, 72, 1);
    }

    private static void onceForOneCause(Due due) {
        BillWatch x = calm();
        x.begin(0, 100);
        x.hours(10);
        due.is("look(3)", x.look(3), 1);
        facts(due, x, 0, 0, 0, 72, 81, 1);
        x.hours(14);
        facts(due, x, 0, 0, 0, 72, 95, 1);
        due.is("look(3) a day on", x.look(3), 1);
        x.hours(1);
        due.is("begun too long ago: the service itself", x.look(3), 2);
        facts(due, x, 1, 0, -1, 96, 96, 1);
        facts(due, x, 0, 0, 0, 72, 95, 1);
        due.is("look(4)", x.look(4), 2);
        x.hours(5);
        facts(due, x, 0, 0, 0, 72, 95, 0);
        facts(due, x, 1, 0, -1, 96, 101, 1);
        due.is("look(4)", x.look(4), 1);
    }

    private static void sixHoursAgo(Due due) {
        BillWatch x = calm();
        x.use(0, 50);
        x.hours(6);
        facts(due, x, 0, 0, -1, 72, 72, 1);
        x.use(0, 50);
        x.hours(1);
        facts(due, x, 0, 0, -1, 72, 78, 1);
        due.is("a jump in the sixth hour keeps it open", x.look(3), 1);
        x.hours(5);
        facts(due, x, 0, 0, -1, 72, 78, 1);
        x.hours(1);
        facts(due, x, 0, 0, -1, 72, 78, 0);
        x.use(0, 50);
        x.hours(1);
        facts(due, x, 1, 0, -1, 85, 85, 1);
        facts(due, x, 0, 0, -1, 72, 78, 0);
        due.is("look(3)", x.look(3), 2);
        due.is("look(4)", x.look(4), 1);
        BillWatch y = calm();
        y.use(0, 50);
        y.hours(7);
        facts(due, y, 0, 0, -1, 72, 72, 0);
    }

    private static void anotherCause(Due due) {
        BillWatch x = calm();
        x.begin(1, 40);
        x.hours(2);
        x.begin(1, 60);
        x.hours(2);
        facts(due, x, 0, 1, 0, 72, 73, 1);
        facts(due, x, 1, 1, 1, 74, 75, 1);
        x.stop(1);
        x.hours(1);
        facts(due, x, 0, 1, 0, 72, 76, 1);
        facts(due, x, 1, 1, 1, 74, 75, 1);
        due.is("the first is open still", x.look(3), 2);
    }

    private static void serviceByService(Due due) {
        BillWatch x = calm();
        x.use(5, 90);
        x.begin(0, 70);
        x.use(2, 90);
        x.hours(1);
        facts(due, x, 0, 0, 0, 72, 72, 1);
        facts(due, x, 1, 2, -1, 72, 72, 1);
        facts(due, x, 2, 5, -1, 72, 72, 1);
        x.use(5, 90);
        x.hours(1);
        facts(due, x, 1, 2, -1, 72, 72, 1);
        facts(due, x, 2, 5, -1, 72, 73, 1);
        due.is("look(4)", x.look(4), 3);
    }

    private static void aHundredAtMost(Due due) {
        BillWatch x = calm();
        for (int round = 0; round < 17; round++) {
            for (int s = 0; s < 6; s++) {
                x.use(s, 100);
            }
            x.hours(7);
        }
        due.is("look(3): 102 would be more than may be", x.look(3), 100);
        facts(due, x, 99, 3, -1, 72 + 16 * 7, 72 + 16 * 7, 0);
        facts(due, x, 100, -1, -1, -1, -1, -1);
        x.use(0, 100);
        x.hours(1);
        due.is("look(3)", x.look(3), 100);
        due.is("look(4)", x.look(4), 0);
        facts(due, x, 0, 0, -1, 72, 72, 0);
    }

    private static void wrongCries(Due due) {
        BillWatch x = calm();
        x.use(4, 11);
        x.hours(1);
        int[] far = {-1, Integer.MIN_VALUE, Integer.MAX_VALUE};
        for (int w : far) {
            due.is("cry(" + w + ", 0)", x.cry(w, 0), -1);
            due.is("cry(0, " + w + ")", x.cry(0, w), -1);
        }
        due.is("cry(1, 0)", x.cry(1, 0), -1);
        due.is("cry(1, 4)", x.cry(1, 4), -1);
        due.is("cry(0, 5)", x.cry(0, 5), -1);
    }
}
