/** Promise 14: cry, and what part 3 of the terms says of it. */
public final class CriesTest {
    private static final int MIN = Integer.MIN_VALUE;
    private static final int MAX = Integer.MAX_VALUE;

    public static void main(String[] args) {
        Due due = new Due();
        asAnHourIsOver(due);
        serviceByService(due);
        withTheFloorOfThatHour(due);
        theGreatestPrice(due);
        ofLikePricesTheLeastNumber(due);
        theLastOfForty(due);
        thatRanInThatHour(due);
        begunAndStoppedInOneHour(due);
        begunInItOr23Ahead(due);
        elseTheServiceItself(due);
        onceForOneCause(due);
        anotherCause(due);
        behindAClosedOne(due);
        theLastHour(due);
        sixHoursAgo(due);
        aHundredAtMost(due);
        openWhenThereAreAHundred(due);
        ofACry(due);
        noSuchCry(due);
        anotherOfACry(due);
        due.end();
    }

    /** At hour 72 of a run without costs, so that every service has a season of nothing. */
    private static BillWatch calm() {
        BillWatch x = new BillWatch();
        Due.pass(x, 72);
        return x;
    }

    private static void facts(Due due, BillWatch x, int i, int... facts) {
        for (int what = 0; what < facts.length; what++) {
            due.is("cry(" + i + ", " + what + ")", x.cry(i, what), facts[what]);
        }
    }

    private static void asAnHourIsOver(Due due) {
        due.says("Terms", "As an HOUR is over");
        BillWatch x = calm();
        x.use(4, 11);
        due.is("a jump now", x.season(4, 72, 2), 1);
        due.is("nothing is cried in the hour itself", x.look(3), 0);
        x.hours(1);
        due.is("look(3)", x.look(3), 1);
        facts(due, x, 0, 4, -1, 72, 72, 1);
        BillWatch y = calm();
        y.use(4, 10);
        y.hours(1);
        due.is("10 is not above the floor", y.look(3), 0);
        BillWatch z = new BillWatch();
        Due.pass(z, 71);
        z.use(0, 9999);
        z.hours(1);
        due.is("no jump without a season", z.look(3), 0);
        BillWatch stopped = calm();
        stopped.begin(0, 50);
        stopped.stop(0);
        stopped.hours(1);
        due.is("a jump that is gone when the hour is over", stopped.look(3), 0);
        BillWatch many = calm();
        many.begin(0, 50);
        many.hours(48);
        due.is("each of many hours that go by at once: the first", many.cry(0, 2), 72);
        due.is("the 24th", many.cry(0, 3), 95);
        due.is("the 25th", many.cry(1, 2), 96);
    }

    private static void serviceByService(Due due) {
        due.says("Terms", "SERVICE by SERVICE (0, 1, ..): if it has a JUMP then,");
        BillWatch x = calm();
        for (int s = 5; s >= 0; s--) {
            if (s != 3) {
                x.use(s, 90);
            }
        }
        x.hours(1);
        int[] services = {0, 1, 2, 4, 5};
        for (int i = 0; i < services.length; i++) {
            facts(due, x, i, services[i], -1, 72, 72, 1);
        }
        due.is("look(3)", x.look(3), 5);
        due.is("look(4)", x.look(4), 5);
        x.use(5, 90);
        x.hours(1);
        facts(due, x, 3, 4, -1, 72, 72, 1);
        facts(due, x, 4, 5, -1, 72, 73, 1);
    }

    private static void withTheFloorOfThatHour(Due due) {
        due.says("Terms", "if it has a JUMP then,");
        BillWatch x = calm();
        x.floor(50);
        x.use(0, 50);
        x.hours(1);
        x.floor(0);
        due.is("a floor set later makes no cry", x.look(3), 0);
        x.use(0, 1);
        x.hours(1);
        x.floor(9999);
        due.is("and takes none away", x.look(3), 1);
        facts(due, x, 0, 0, -1, 73, 73, 1);
    }

    private static void theGreatestPrice(Due due) {
        due.says("Terms", "its CAUSE is the MACHINE of it with the greatest PRICE");
        BillWatch x = calm();
        x.begin(2, 30);
        x.begin(2, 50);
        x.begin(2, 40);
        x.begin(1, 10);
        x.hours(1);
        due.is("look(3)", x.look(3), 1);
        facts(due, x, 0, 2, 1, 72, 72, 1);
        BillWatch y = calm();
        y.begin(3, 900);
        y.begin(2, 20);
        y.begin(3, 1);
        y.hours(1);
        facts(due, y, 0, 2, 1, 72, 72, 1);
        facts(due, y, 1, 3, 0, 72, 72, 1);
    }

    private static void ofLikePricesTheLeastNumber(Due due) {
        due.says("Terms", "(of several the least number)");
        BillWatch x = calm();
        x.begin(2, 30);
        x.begin(2, 50);
        x.begin(2, 50);
        x.begin(2, 50);
        x.hours(1);
        facts(due, x, 0, 2, 1, 72, 72, 1);
        x.stop(1);
        x.hours(1);
        facts(due, x, 1, 2, 2, 73, 73, 1);
    }

    private static void theLastOfForty(Due due) {
        due.says("Terms", "MACHINES (40 at most");
        BillWatch x = calm();
        for (int m = 0; m < 39; m++) {
            x.begin(m % 6, 1);
        }
        x.begin(5, 999);
        x.hours(1);
        due.is("look(3)", x.look(3), 1);
        facts(due, x, 0, 5, 39, 72, 72, 1);
    }

    private static void thatRanInThatHour(Due due) {
        due.says("Terms", "that ran in that HOUR");
        BillWatch x = calm();
        x.begin(3, 100);
        x.begin(3, 20);
        x.hours(1);
        facts(due, x, 0, 3, 0, 72, 72, 1);
        x.stop(0);
        x.hours(1);
        facts(due, x, 1, 3, 1, 73, 73, 1);
        facts(due, x, 0, 3, 0, 72, 72, 1);
        x.stop(1);
        x.use(3, 60);
        x.hours(1);
        facts(due, x, 2, 3, -1, 74, 74, 1);
        facts(due, x, 1, 3, 1, 73, 73, 1);
    }

    private static void begunAndStoppedInOneHour(Due due) {
        due.says("Promise 5", "(Begun and stopped in one HOUR, it costs nothing.)");
        BillWatch x = calm();
        x.begin(3, 100);
        x.begin(3, 20);
        x.stop(0);
        x.hours(1);
        facts(due, x, 0, 3, 1, 72, 72, 1);
        BillWatch y = calm();
        y.begin(3, 100);
        y.stop(0);
        y.use(3, 20);
        y.hours(1);
        facts(due, y, 0, 3, -1, 72, 72, 1);
    }

    private static void begunInItOr23Ahead(Due due) {
        due.says("Terms", "and was begun in it or in one of the 23 ahead of it;");
        BillWatch x = calm();
        x.begin(0, 10);
        x.hours(23);
        due.is("its own price is no jump", x.look(3), 0);
        x.use(0, 5);
        x.hours(1);
        facts(due, x, 0, 0, 0, 95, 95, 1);
        BillWatch y = calm();
        y.begin(0, 10);
        y.hours(24);
        y.use(0, 500);
        y.hours(1);
        facts(due, y, 0, 0, -1, 96, 96, 1);
        BillWatch z = calm();
        z.begin(0, 10);
        z.hours(24);
        z.begin(0, 1);
        z.hours(1);
        facts(due, z, 0, 0, 1, 96, 96, 1);
        BillWatch early = new BillWatch();
        early.begin(0, 10);
        Due.pass(early, 72);
        early.use(0, 90);
        early.hours(1);
        facts(due, early, 0, 0, -1, 72, 72, 1);
    }

    private static void elseTheServiceItself(Due due) {
        due.says("Terms", "else (there is none) the SERVICE itself.");
        BillWatch x = calm();
        x.begin(1, 10);
        x.use(2, 90);
        x.hours(1);
        due.is("look(3)", x.look(3), 1);
        facts(due, x, 0, 2, -1, 72, 72, 1);
    }

    private static void onceForOneCause(Due due) {
        due.says("Terms",
                "If no CRY of that SERVICE is OPEN with this CAUSE, there is a new one (numbered as they come).");
        BillWatch x = calm();
        x.begin(0, 100);
        x.hours(10);
        due.is("look(3)", x.look(3), 1);
        facts(due, x, 0, 0, 0, 72, 81, 1);
        x.hours(14);
        facts(due, x, 0, 0, 0, 72, 95, 1);
        due.is("look(3) a day on", x.look(3), 1);
        x.hours(1);
        due.is("begun too long ago: the service itself", x.look(3), 2);
        facts(due, x, 1, 0, -1, 96, 96, 1);
        facts(due, x, 0, 0, 0, 72, 95, 1);
        due.is("look(4)", x.look(4), 2);
        x.use(1, 90);
        x.hours(1);
        due.is("the cause of another service is another", x.look(3), 3);
        facts(due, x, 2, 1, -1, 97, 97, 1);
    }

    private static void anotherCause(Due due) {
        due.says("Terms", "is OPEN with this CAUSE");
        BillWatch x = calm();
        x.begin(1, 40);
        x.hours(2);
        x.begin(1, 60);
        x.hours(2);
        facts(due, x, 0, 1, 0, 72, 73, 1);
        facts(due, x, 1, 1, 1, 74, 75, 1);
        x.stop(1);
        x.hours(1);
        facts(due, x, 0, 1, 0, 72, 76, 1);
        facts(due, x, 1, 1, 1, 74, 75, 1);
        due.is("the first is open still", x.look(3), 2);
    }

    private static void behindAClosedOne(Due due) {
        due.says("Terms", "If no CRY of that SERVICE is OPEN");
        BillWatch x = calm();
        x.use(0, 50);
        x.hours(7);
        facts(due, x, 0, 0, -1, 72, 72, 0);
        x.use(0, 50);
        x.hours(1);
        due.is("look(3)", x.look(3), 2);
        due.is("look(4)", x.look(4), 1);
        facts(due, x, 1, 0, -1, 79, 79, 1);
        facts(due, x, 0, 0, -1, 72, 72, 0);
        x.use(0, 50);
        x.hours(1);
        due.is("the closed one is not opened again", x.look(3), 2);
        facts(due, x, 1, 0, -1, 79, 80, 1);
        facts(due, x, 0, 0, -1, 72, 72, 0);
        x.hours(6);
        facts(due, x, 1, 0, -1, 79, 80, 0);
        due.is("look(4)", x.look(4), 0);
    }

    private static void theLastHour(Due due) {
        due.says("Terms", "Each OPEN one of the SERVICE with that CAUSE has this HOUR as its LAST.");
        BillWatch x = calm();
        x.use(0, 50);
        x.use(1, 50);
        x.hours(3);
        facts(due, x, 0, 0, -1, 72, 72, 1);
        x.use(0, 50);
        x.hours(2);
        facts(due, x, 0, 0, -1, 72, 75, 1);
        facts(due, x, 1, 1, -1, 72, 72, 1);
        x.begin(0, 50);
        x.hours(1);
        facts(due, x, 0, 0, -1, 72, 75, 1);
        facts(due, x, 2, 0, 0, 77, 77, 1);
    }

    private static void sixHoursAgo(Due due) {
        due.says("Terms", "Then a CRY whose LAST was 6 HOURS ago is CLOSED.");
        BillWatch x = calm();
        x.use(0, 50);
        x.hours(6);
        facts(due, x, 0, 0, -1, 72, 72, 1);
        x.use(0, 50);
        x.hours(1);
        facts(due, x, 0, 0, -1, 72, 78, 1);
        due.is("a jump in the sixth hour keeps it open", x.look(3), 1);
        x.hours(5);
        facts(due, x, 0, 0, -1, 72, 78, 1);
        due.is("look(4)", x.look(4), 1);
        x.hours(1);
        facts(due, x, 0, 0, -1, 72, 78, 0);
        due.is("look(4)", x.look(4), 0);
        x.hours(48);
        facts(due, x, 0, 0, -1, 72, 78, 0);
        due.is("it is a cry still", x.look(3), 1);
    }

    /** Six cries at a time, closed again seven hours on. */
    private static void cryInRounds(BillWatch x, int rounds) {
        for (int round = 0; round < rounds; round++) {
            for (int s = 0; s < 6; s++) {
                x.use(s, 100);
            }
            x.hours(7);
        }
    }

    private static void aHundredAtMost(Due due) {
        due.says("Terms", "(100 at most; one more is not cried.)");
        BillWatch x = calm();
        cryInRounds(x, 16);
        due.is("look(3)", x.look(3), 96);
        cryInRounds(x, 1);
        due.is("look(3): 102 would be more than may be", x.look(3), 100);
        facts(due, x, 99, 3, -1, 72 + 16 * 7, 72 + 16 * 7, 0);
        facts(due, x, 100, -1, -1, -1, -1, -1);
        x.use(0, 100);
        x.begin(1, 100);
        x.hours(1);
        due.is("look(3)", x.look(3), 100);
        due.is("look(4)", x.look(4), 0);
        facts(due, x, 0, 0, -1, 72, 72, 0);
        facts(due, x, 100, -1, -1, -1, -1, -1);
    }

    private static void openWhenThereAreAHundred(Due due) {
        due.says("Terms", "one more is not cried.)");
        BillWatch x = calm();
        cryInRounds(x, 16);
        int now = 72 + 16 * 7;
        for (int s = 0; s < 6; s++) {
            x.use(s, 100);
        }
        x.hours(1);
        due.is("look(3)", x.look(3), 100);
        due.is("look(4): services 0 to 3 alone", x.look(4), 4);
        x.use(3, 100);
        x.use(4, 100);
        x.hours(5);
        facts(due, x, 99, 3, -1, now, now + 1, 1);
        facts(due, x, 98, 2, -1, now, now, 1);
        x.hours(1);
        facts(due, x, 99, 3, -1, now, now + 1, 1);
        facts(due, x, 98, 2, -1, now, now, 0);
        due.is("look(4): the one with a later last", x.look(4), 1);
        due.is("look(3)", x.look(3), 100);
    }

    private static void ofACry(Due due) {
        due.says("Promise 14", "Of CRY i what 0 SERVICE, 1 the MACHINE that is its CAUSE (NONE: the SERVICE itself), "
                + "2 the HOUR in which it came, 3 LAST, 4 1 if it is OPEN, else 0.");
        BillWatch x = calm();
        x.use(5, 40);
        x.hours(2);
        x.begin(4, 40);
        x.begin(3, 80);
        x.hours(6);
        facts(due, x, 0, 5, -1, 72, 72, 0);
        facts(due, x, 1, 3, 1, 74, 79, 1);
        facts(due, x, 2, 4, 0, 74, 79, 1);
    }

    private static void noSuchCry(Due due) {
        due.says("Promise 14", "NONE if there is none such");
        BillWatch x = calm();
        for (int what = 0; what < 5; what++) {
            due.is("without a cry: cry(0, " + what + ")", x.cry(0, what), -1);
        }
        x.use(4, 11);
        x.hours(1);
        for (int i : new int[] {-1, 1, 99, 100, MIN, MAX}) {
            for (int what = 0; what < 5; what++) {
                due.is("cry(" + i + ", " + what + ")", x.cry(i, what), -1);
            }
        }
        due.is("cry(0, 0)", x.cry(0, 0), 4);
    }

    private static void anotherOfACry(Due due) {
        due.says("Promise 14", "NONE if there is none such, or another what.");
        BillWatch x = calm();
        x.use(4, 11);
        x.hours(1);
        for (int what : new int[] {-1, 5, MIN, MAX}) {
            due.is("cry(0, " + what + ")", x.cry(0, what), -1);
        }
    }
}
