/** Promises 7, 12 and 13: floor, season and creeps. */
public final class SeasonTest {
    private static final int MIN = Integer.MIN_VALUE;
    private static final int MAX = Integer.MAX_VALUE;

    public static void main(String[] args) {
        Due due = new Due();
        floors(due);
        floorRefused(due);
        medians(due);
        sevenDaysAtMost(due);
        atLeastThree(due);
        expectedAndSpread(due);
        theEdgeOfAJump(due);
        floorsFrom0To9999(due);
        anHourThatIsOverOrNow(due);
        byTheFloorAsItIsNow(due);
        seasonOfAnHour(due);
        noJumpWithoutASeason(due);
        noSuchSeason(due);
        noneWithoutASeason(due);
        theHoursOfADay(due);
        theLastSevenDays(due);
        fifteenPairsMore(due);
        elevenTenths(due);
        creepsOrNot(due);
        noSuchCreeping(due);
        fewerThanSevenDays(due);
        due.end();
    }

    /** Each cost is used in the first hour of a day, and the day goes by. */
    private static BillWatch days(int s, int... costs) {
        BillWatch x = new BillWatch();
        for (int cost : costs) {
            x.use(s, cost);
            x.hours(24);
        }
        return x;
    }

    private static void floors(Due due) {
        due.says("Promise 7", "FLOOR: true;");
        BillWatch x = new BillWatch();
        due.is("look(5) at first", x.look(5), 10);
        due.yes("floor(25)", x.floor(25));
        due.is("look(5)", x.look(5), 25);
        x.hours(1);
        due.is("look(5) an hour on", x.look(5), 25);
        due.yes("floor(9999)", x.floor(9999));
        due.is("look(5)", x.look(5), 9999);
        due.yes("floor(0)", x.floor(0));
        due.is("look(5)", x.look(5), 0);
    }

    private static void floorRefused(Due due) {
        due.says("Promise 7", "false, and nothing is done, if it can't be.");
        Twins twins = new Twins();
        for (int v : new int[] {-1, 10000, MIN, MAX}) {
            due.no("floor(" + v + ")", twins.teased.floor(v));
        }
        twins.alike(due);
    }

    private static void medians(Due due) {
        due.says("Terms", "The MEDIAN of n numbers is the one that stands at place (n - 1) / 2 "
                + "(from 0 on, divided downwards) in rising order.");
        BillWatch x = days(0, 50, 10, 40, 20, 90, 10, 60);
        int[] expected = {40, 20, 40, 20, 40};
        // how far: 10 30 0; 30 10 20 0; 10 30 0 20 50; 30 10 20 0 70 10; 10 30 0 20 50 30 20
        int[] spread = {10, 10, 20, 10, 20};
        for (int n = 3; n <= 7; n++) {
            due.is("expected of " + n, x.season(0, 24 * n, 0), expected[n - 3]);
            due.is("spread of " + n, x.season(0, 24 * n, 1), spread[n - 3]);
        }
        BillWatch falling = days(0, 9, 8, 7, 6, 5, 4, 3);
        due.is("of seven that fall", falling.season(0, 168, 0), 6);
        BillWatch like = days(0, 8, 8, 3, 8);
        due.is("of like ones", like.season(0, 96, 0), 8);
        due.is("spread of like ones", like.season(0, 96, 1), 0);
    }

    private static void sevenDaysAtMost(Due due) {
        due.says("Terms", "SEASON of a SERVICE and an HOUR h: the COSTS in the HOURS h - 24, h - 48 .. h - 168, "
                + "as far as there are such;");
        BillWatch x = days(2, 900, 1, 2, 3, 4, 5, 6, 7);
        due.is("expected of days 1 to 7", x.season(2, 192, 0), 4);
        due.is("spread of days 1 to 7", x.season(2, 192, 1), 2);
        due.is("expected of days 0 to 6", x.season(2, 168, 0), 4);
        due.is("expected of days 0 to 5", x.season(2, 144, 0), 3);
        due.is("another service", x.season(3, 192, 0), 0);
        due.is("another hour of the day", x.season(2, 191, 0), 0);
        BillWatch y = days(2, 900, 900, 900, 900, 1, 2, 3);
        due.is("h - 168 is in it", y.season(2, 168, 0), 900);
        y.use(2, 4);
        y.hours(24);
        due.is("h - 192 is not", y.season(2, 192, 0), 4);
        BillWatch z = days(2, 5, 5, 6, 6);
        due.is("h - 24 is in it", z.season(2, 72, 1), 0);
        z.use(2, 9000);
        due.is("h itself is not", z.season(2, 96, 0), 5);
        due.is("nor in the spread", z.season(2, 96, 1), 0);
    }

    private static void atLeastThree(Due due) {
        due.says("Terms", "at least three of them, else it has none.");
        BillWatch x = new BillWatch();
        x.begin(1, 5);
        Due.pass(x, 73);
        for (int h : new int[] {0, 23, 24, 47, 48, 70, 71}) {
            due.is("season(1, " + h + ", 0)", x.season(1, h, 0), -1);
            due.is("season(1, " + h + ", 1)", x.season(1, h, 1), -1);
        }
        due.is("season(1, 72, 0): three, the first of them hour 0", x.season(1, 72, 0), 5);
        due.is("season(1, 72, 1)", x.season(1, 72, 1), 0);
        due.is("season(1, 73, 0)", x.season(1, 73, 0), 5);
    }

    private static void expectedAndSpread(Due due) {
        due.says("Terms", "EXPECTED: their MEDIAN; SPREAD: the MEDIAN of how far each of them is from EXPECTED.");
        BillWatch x = days(4, 100, 40, 101);
        due.is("expected of 40 100 101", x.season(4, 72, 0), 100);
        due.is("spread of 60 0 1", x.season(4, 72, 1), 1);
        BillWatch y = days(4, 20, 50, 80);
        due.is("expected of 20 50 80", y.season(4, 72, 0), 50);
        due.is("spread of 30 0 30: below counts as above", y.season(4, 72, 1), 30);
        BillWatch z = days(4, 0, 0, 0);
        due.is("expected of nothing", z.season(4, 72, 0), 0);
        due.is("spread of nothing", z.season(4, 72, 1), 0);
    }

    private static void theEdgeOfAJump(Due due) {
        due.says("Terms", "is above EXPECTED and 3 times SPREAD and FLOOR (0 .. 9999, 10 at first) together.");
        BillWatch x = days(0, 100, 104, 96, 100, 108);
        due.is("expected", x.season(0, 120, 0), 100);
        due.is("spread", x.season(0, 120, 1), 4);
        due.is("nothing is no jump", x.season(0, 120, 2), 0);
        x.use(0, 122);
        due.is("122 is not above 100 + 12 + 10", x.season(0, 120, 2), 0);
        x.use(0, 1);
        due.is("123 is", x.season(0, 120, 2), 1);
        BillWatch y = days(0, 900, 900, 900);
        due.is("a fall is no jump", y.season(0, 72, 2), 0);
    }

    private static void floorsFrom0To9999(Due due) {
        due.says("Terms", "FLOOR (0 .. 9999, 10 at first)");
        BillWatch x = days(0, 20, 20, 20);
        x.use(0, 30);
        due.is("30 at floor 10, the first", x.season(0, 72, 2), 0);
        x.floor(9);
        due.is("30 at floor 9", x.season(0, 72, 2), 1);
        x.floor(9999);
        due.is("30 at floor 9999", x.season(0, 72, 2), 0);
        x.use(0, 9989);
        due.is("10019 at floor 9999", x.season(0, 72, 2), 0);
        x.use(0, 1);
        due.is("10020 at floor 9999", x.season(0, 72, 2), 1);
        BillWatch y = days(0, 20, 20, 20);
        y.floor(0);
        y.use(0, 20);
        due.is("20 at floor 0", y.season(0, 72, 2), 0);
        y.use(0, 1);
        due.is("21 at floor 0", y.season(0, 72, 2), 1);
    }

    private static void anHourThatIsOverOrNow(Due due) {
        due.says("Terms", "A JUMP: the COST of an HOUR that is over (or now)");
        BillWatch x = days(5, 6, 6, 6);
        x.use(5, 17);
        due.is("now", x.season(5, 72, 2), 1);
        x.hours(1);
        due.is("over", x.season(5, 72, 2), 1);
        due.is("the hour behind it", x.season(5, 73, 2), 0);
        due.is("an hour that is not yet", x.season(5, 74, 2), -1);
        x.use(5, 500);
        due.is("an hour that is over stays as it was", x.season(5, 72, 0), 6);
        x.hours(23);
        due.is("the jump counts in the season of the day behind it", x.season(5, 96, 1), 0);
        due.is("expected of 6 6 6 17", x.season(5, 96, 0), 6);
    }

    private static void byTheFloorAsItIsNow(Due due) {
        due.says("Terms", "A JUMP: the COST of an HOUR that is over (or now) is above EXPECTED and 3 times SPREAD and "
                + "FLOOR (0 .. 9999, 10 at first) together.");
        BillWatch x = days(1, 20, 20, 20);
        x.use(1, 40);
        x.hours(30);
        due.is("40 in an hour that is over, at floor 10", x.season(1, 72, 2), 1);
        due.is("it was cried", x.look(3), 1);
        x.floor(20);
        due.is("at floor 20", x.season(1, 72, 2), 0);
        due.is("the cry stays", x.look(3), 1);
        x.floor(19);
        due.is("at floor 19", x.season(1, 72, 2), 1);
        due.no("floor(10000)", x.floor(10000));
        due.is("a floor that is refused changes nothing", x.season(1, 72, 2), 1);
        due.is("nor is it cried again", x.look(3), 1);
        due.is("expected is the same at every floor", x.season(1, 72, 0), 20);
        due.is("and so is spread", x.season(1, 72, 1), 0);
    }

    private static void seasonOfAnHour(Due due) {
        due.says("Promise 12",
                "Of SERVICE s and an HOUR (up to now) what 0 EXPECTED, 1 SPREAD, 2 1 if it has a JUMP, else 0");
        BillWatch x = days(5, 10, 40, 20);
        x.use(5, 99);
        int[] jumps = {20, 10, 1};
        for (int what = 0; what < 3; what++) {
            due.is("season(5, 72, " + what + ")", x.season(5, 72, what), jumps[what]);
            due.is("season(0, 72, " + what + ")", x.season(0, 72, what), 0);
        }
    }

    private static void noJumpWithoutASeason(Due due) {
        due.says("Promise 12", "(without a SEASON: 0).");
        BillWatch x = new BillWatch();
        x.use(0, 9999);
        due.is("season(0, 0, 2)", x.season(0, 0, 2), 0);
        Due.pass(x, 71);
        x.use(0, 9999);
        due.is("season(0, 71, 2): two", x.season(0, 71, 2), 0);
        x.hours(24);
        x.use(0, 9999);
        due.is("season(0, 95, 2): three", x.season(0, 95, 2), 1);
        due.is("season(0, 71, 2): still two", x.season(0, 71, 2), 0);
    }

    private static void noSuchSeason(Due due) {
        due.says("Promise 12", "NONE if one can't be");
        BillWatch x = days(0, 5, 5, 5, 5);
        for (int w : new int[] {MIN, MAX, -1}) {
            for (int what = 0; what < 3; what++) {
                due.is("season(" + w + ", 80, " + what + ")", x.season(w, 80, what), -1);
                due.is("season(0, " + w + ", " + what + ")", x.season(0, w, what), -1);
            }
            due.is("season(0, 80, " + w + ")", x.season(0, 80, w), -1);
        }
        for (int what = 0; what < 3; what++) {
            due.is("season(6, 80, " + what + ")", x.season(6, 80, what), -1);
            due.is("season(0, 97, " + what + "): behind now", x.season(0, 97, what), -1);
            due.is("season(0, 2000, " + what + ")", x.season(0, 2000, what), -1);
            due.is("season(5, 96, " + what + ")", x.season(5, 96, what), 0);
        }
        due.is("season(0, 96, 3)", x.season(0, 96, 3), -1);
        due.is("season(0, 0, 3): without a season", x.season(0, 0, 3), -1);
        due.is("season(0, 0, -1): without a season", x.season(0, 0, -1), -1);
    }

    private static void noneWithoutASeason(Due due) {
        due.says("Promise 12", "NONE if one can't be, or 0, 1 without a SEASON.");
        BillWatch x = new BillWatch();
        due.is("season(0, 0, 0)", x.season(0, 0, 0), -1);
        due.is("season(0, 0, 1)", x.season(0, 0, 1), -1);
        Due.pass(x, 71);
        due.is("season(0, 71, 0)", x.season(0, 71, 0), -1);
        due.is("season(0, 71, 1)", x.season(0, 71, 1), -1);
        x.hours(1);
        due.is("season(0, 72, 0): three of nothing", x.season(0, 72, 0), 0);
        due.is("season(0, 72, 1): three of nothing", x.season(0, 72, 1), 0);
        due.is("season(0, 71, 0), asked behind one that has", x.season(0, 71, 0), -1);
    }

    private static void theHoursOfADay(Due due) {
        due.says("Terms", "DAY d has the HOURS 24 d .. 24 d + 23.");
        due.is("60 in hour 23: 60 0 61 62 63 64 66", oneThatStands(23, 167).creeps(0), 0);
        due.is("60 in hour 24: 0 60 61 62 63 64 66", oneThatStands(24, 167).creeps(0), 1);
        due.is("66 in hour 144: of the last day", oneThatStands(24, 144).creeps(0), 1);
        due.is("66 in hour 143: of the day ahead of it", oneThatStands(24, 143).creeps(0), 0);
        due.is("66 in hour 168: of no day that is over", oneThatStands(24, 168).creeps(0), 0);
    }

    /** 60 in an hour at the first days' border, 61 62 63 64 in the days 2 to 5, 66 in a late hour. */
    private static BillWatch oneThatStands(int early, int late) {
        BillWatch x = new BillWatch();
        for (int h = 0; h <= 168; h++) {
            if (h == early || h == late) {
                x.use(0, h == early ? 60 : 66);
            }
            if (h % 24 == 12 && h >= 48 && h < 144) {
                x.use(0, 59 + h / 24);
            }
            if (h < 168) {
                x.hours(1);
            }
        }
        return x;
    }

    private static void theLastSevenDays(Due due) {
        due.says("Terms", "CREEPING is a SERVICE, if of the last 7 DAYS that are over (there must be so many),");
        BillWatch x = days(1, 9000, 10, 20, 30, 40, 50, 60);
        due.is("the first day is dear", x.creeps(1), 0);
        x.use(1, 70);
        x.hours(23);
        due.is("an hour ahead of the day's end", x.creeps(1), 0);
        x.hours(1);
        due.is("the dear day is eight back", x.creeps(1), 1);
        x.use(1, 9999);
        due.is("the day that is not over does not count", x.creeps(1), 1);
        BillWatch y = days(1, 10, 20, 30, 40, 50, 60, 70);
        y.hours(23);
        due.is("until it is over", y.creeps(1), 1);
        y.hours(1);
        due.is("a day of nothing, over", y.creeps(1), 0);
    }

    private static void fifteenPairsMore(Due due) {
        due.says("Terms", "of all 21 pairs, those of which the later DAY costs more are 15 at least more than "
                + "those of which it costs less,");
        due.is("21 more", days(0, 10, 20, 30, 40, 50, 60, 70).creeps(0), 1);
        due.is("18 more, 3 less: 15", days(0, 10, 40, 30, 20, 50, 60, 70).creeps(0), 1);
        due.is("17 more, 4 less: 13", days(0, 10, 40, 50, 30, 20, 60, 70).creeps(0), 0);
        due.is("15 more, 6 like: 15", days(0, 10, 20, 20, 20, 20, 50, 60).creeps(0), 1);
        due.is("14 more, 7 like: 14", days(0, 10, 10, 20, 20, 20, 20, 60).creeps(0), 0);
        due.is("17 more, 2 less, 2 like: 15", days(0, 10, 10, 30, 30, 20, 60, 70).creeps(0), 1);
        due.is("17 more, 3 less, 1 like: 14", days(0, 10, 10, 40, 30, 20, 60, 70).creeps(0), 0);
        due.is("all like", days(0, 5, 5, 5, 5, 5, 5, 5).creeps(0), 0);
        due.is("nothing", days(0, 0, 0, 0, 0, 0, 0, 0).creeps(0), 0);
        due.is("21 less", days(0, 70, 60, 50, 40, 30, 20, 10).creeps(0), 0);
    }

    private static void elevenTenths(Due due) {
        due.says("Terms", "and the last of them costs more than 11 tenths of the first.");
        due.is("110 is not above 11 tenths of 100", days(3, 100, 101, 102, 103, 104, 105, 110).creeps(3), 0);
        due.is("111 is", days(3, 100, 101, 102, 103, 104, 105, 111).creeps(3), 1);
        due.is("116 is above 115.5", days(3, 105, 106, 107, 108, 109, 110, 116).creeps(3), 1);
        due.is("115 is not", days(3, 105, 106, 107, 108, 109, 110, 115).creeps(3), 0);
        due.is("32 is above 31.9", days(3, 29, 29, 30, 30, 31, 31, 32).creeps(3), 1);
        due.is("from nothing on", days(3, 0, 1, 2, 3, 4, 5, 6).creeps(3), 1);
        due.is("the last, not the greatest", days(3, 100, 101, 102, 103, 104, 150, 109).creeps(3), 0);
        due.is("the first, not the least", days(3, 100, 50, 101, 102, 103, 104, 109).creeps(3), 0);
    }

    private static void creepsOrNot(Due due) {
        due.says("Promise 13", "Whether SERVICE s is CREEPING: 1, 0;");
        BillWatch x = days(4, 10, 20, 30, 40, 50, 60, 70);
        for (int s = 0; s < 6; s++) {
            due.is("creeps(" + s + ")", x.creeps(s), s == 4 ? 1 : 0);
        }
        BillWatch dear = new BillWatch();
        for (int m = 0; m < 40; m++) {
            dear.begin(0, 999);
            if (m % 6 == 5) {
                dear.hours(24);
            }
        }
        dear.hours(24);
        due.is("with great costs", dear.creeps(0), 1);
    }

    private static void noSuchCreeping(Due due) {
        due.says("Promise 13", "NONE if there is none such");
        BillWatch x = days(0, 10, 20, 30, 40, 50, 60, 70);
        for (int s : new int[] {-1, 6, MIN, MAX}) {
            due.is("creeps(" + s + ")", x.creeps(s), -1);
        }
    }

    private static void fewerThanSevenDays(Due due) {
        due.says("Promise 13", "or fewer than 7 DAYS are over.");
        BillWatch x = new BillWatch();
        for (int s = 0; s < 6; s++) {
            due.is("at first: creeps(" + s + ")", x.creeps(s), -1);
        }
        Due.pass(x, 167);
        for (int s = 0; s < 6; s++) {
            due.is("in the last hour of day 6: creeps(" + s + ")", x.creeps(s), -1);
        }
        x.hours(1);
        for (int s = 0; s < 6; s++) {
            due.is("when it is over: creeps(" + s + ")", x.creeps(s), 0);
        }
    }
}
