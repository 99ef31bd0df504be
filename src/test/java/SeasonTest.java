/** Promises 7, 12 and 13: floor, season and creeps. */
public final class SeasonTest {
    public static void main(String[] args) {
        Due due = new Due();
        floors(due);
        medians(due);
        atLeastThree(due);
        sevenDaysAtMost(due);
        theEdgeOfAJump(due);
        floorIsThatOfNow(due);
        wrongSeasons(due);
        creepsByPairs(due);
        creepsByElevenTenths(due);
        creepsOverTheLastSevenDays(due);
        wrongCreeps(due);
        due.end();
    }

    /** Each cost is used in the first hour of a day, and the day goes by. */
    private static BillWatch days(int s, int... costs) {
        BillWatch x = new BillWatch();
        for (int cost : costs) {
            x.use(s, cost);
            x.hours(24);
        }
        return x;
    }

    private static void floors(Due due) {
        BillWatch x = new BillWatch();
        due.yes("floor(9999)", x.floor(9999));
        due.is("look(5)", x.look(5), 9999);
        for (int v : new int[] {-1, 10000, Integer.MIN_VALUE, Integer.MAX_VALUE}) {
            due.no("floor(" + v + ")", x.floor(v));
            due.is("look(5) after floor(" + v + ")", x.look(5), 9999);
        }
        due.yes("floor(0)", x.floor(0));
        due.is("look(5)", x.look(5), 0);
    }

    private static void medians(Due due) {
        BillWatch odd = days(0, 50, 10, 40, 20, 90);
        due.is("expected of five", odd.season(0, 120, 0), 40);
        due.is("spread of five: 0 10 20 30 50", odd.season(0, 120, 1), 20);
        BillWatch even = days(4, 50, 10, 40, 20);
        due.is("expected of four: the lower of the middle", even.season(4, 96, 0), 20);
        due.is("spread of four: 0 10 20 30", even.season(4, 96, 1), 10);
        due.is("another service", even.season(3, 96, 0), 0);
        due.is("another hour of the day", even.season(4, 95, 0), 0);
    }

    private static void atLeastThree(Due due) {
        BillWatch x = days(1, 5, 5, 5);
        due.is("season(1, 71, 0): two", x.season(1, 71, 0), -1);
        due.is("season(1, 71, 1): two", x.season(1, 71, 1), -1);
        due.is("season(1, 71, 2): two", x.season(1, 71, 2), 0);
        due.is("season(1, 72, 0): three", x.season(1, 72, 0), 5);
        due.is("season(1, 72, 1): three", x.season(1, 72, 1), 0);
        BillWatch y = new BillWatch();
        y.hours(48);
        y.use(0, 9999);
        due.is("no jump without a season", y.season(0, 48, 2), 0);
    }

    private static void sevenDaysAtMost(Due due) {
        BillWatch x = days(2, 900, 1, 2, 3, 4, 5, 6, 7);
        due.is("expected of days 1 to 7", x.season(2, 192, 0), 4);
        due.is("spread of days 1 to 7", x.season(2, 192, 1), 2);
        due.is("expected of days 0 to 6", x.season(2, 168, 0), 4);
        due.is("expected of days 0 to 5", x.season(2, 144, 0), 3);
        BillWatch y = days(2, 900, 900, 900, 900, 1, 2, 3);
        due.is("the seventh day back is in it", y.season(2, 168, 0), 900);
        y.use(2, 4);
        y.hours(24);
        due.is("the eighth is not", y.season(2, 192, 0), 4);
    }

    private static void theEdgeOfAJump(Due due) {
        BillWatch x = days(0, 100, 104, 96, 100, 108);
        due.is("expected", x.season(0, 120, 0), 100);
        due.is("spread", x.season(0, 120, 1), 4);
        due.is("below it is no jump", x.season(0, 120, 2), 0);
        x.use(0, 122);
        due.is("122 is not above 100 + 12 + 10", x.season(0, 120, 2), 0);
        x.use(0, 1);
        due.is("123 is", x.season(0, 120, 2), 1);
        x.hours(1);
        due.is("and when it is over", x.season(0, 120, 2), 1);
    }

    private static void floorIsThatOfNow(Due due) {
        BillWatch x = days(0, 20, 20, 20);
        x.use(0, 30);
        due.is("floor 10", x.season(0, 72, 2), 0);
        x.floor(9);
        due.is("floor 9", x.season(0, 72, 2), 1);
        x.floor(9999);
        due.is("floor 9999", x.season(0, 72, 2), 0);
        x.floor(0);
        x.use(0, 1);
        due.is("floor 0", x.season(0, 72, 2), 1);
    }

    private static void wrongSeasons(Due due) {
        BillWatch x = days(0, 5, 5, 5, 5);
        int[] far = {Integer.MIN_VALUE, Integer.MAX_VALUE, -1};
        for (int w : far) {
            for (int what = 0; what < 3; what++) {
                due.is("season(" + w + ", 80, " + what + ")", x.season(w, 80, what), -1);
                due.is("season(0, " + w + ", " + what + ")", x.season(0, w, what), -1);
            }
            due.is("season(0, 80, " + w + ")", x.season(0, 80, w), -1);
        }
        due.is("season(6, 80, 0)", x.season(6, 80, 0), -1);
        due.is("season(6, 80, 2)", x.season(6, 80, 2), -1);
        due.is("season(0, 97, 0): behind now", x.season(0, 97, 0), -1);
        due.is("season(0, 97, 2): behind now", x.season(0, 97, 2), -1);
        due.is("season(0, 96, 3)", x.season(0, 96, 3), -1);
        due.is("season(0, 0, 3): without a season", x.season(0, 0, 3), -1);
        due.is("season(0, 96, 2)", x.season(0, 96, 2), 0);
    }

    private static void creepsByPairs(Due due) {
        due.is("21 pairs up", days(0, 10, 20, 30, 40, 50, 60, 70).creeps(0), 1);
        due.is("18 up, 3 down: 15", days(0, 10, 40, 30, 20, 50, 60, 70).creeps(0), 1);
        due.is("17 up, 4 down: 13", days(0, 10, 40, 50, 30, 20, 60, 70).creeps(0), 0);
        due.is("15 up, 6 like", days(0, 10, 20, 20, 20, 20, 50, 60).creeps(0), 1);
        due.is("14 up, 7 like", days(0, 10, 10, 20, 20, 20, 20, 60).creeps(0), 0);
        due.is("17 up, 2 down, 2 like: 15", days(0, 10, 10, 30, 30, 20, 60, 70).creeps(0), 1);
        due.is("17 up, 3 down, 1 like: 14", days(0, 10, 10, 40, 30, 20, 60, 70).creeps(0), 0);
        due.is("all like", days(0, 5, 5, 5, 5, 5, 5, 5).creeps(0), 0);
        due.is("nothing", days(0, 0, 0, 0, 0, 0, 0, 0).creeps(0), 0);
        due.is("falling", days(0, 70, 60, 50, 40, 30, 20, 10).creeps(0), 0);
    }

    private static void creepsByElevenTenths(Due due) {
        due.is("110 is not above 11 tenths of 100", days(3, 100, 101, 102, 103, 104, 105, 110).creeps(3), 0);
        due.is("111 is", days(3, 100, 101, 102, 103, 104, 105, 111).creeps(3), 1);
        due.is("116 is above 115.5", days(3, 105, 106, 107, 108, 109, 110, 116).creeps(3), 1);
        due.is("115 is not", days(3, 105, 106, 107, 108, 109, 110, 115).creeps(3), 0);
        due.is("32 is above 31.9", days(3, 29, 29, 30, 30, 31, 31, 32).creeps(3), 1);
        due.is("from nothing on", days(3, 0, 1, 2, 3, 4, 5, 6).creeps(3), 1);
    }

    private static void creepsOverTheLastSevenDays(Due due) {
        BillWatch x = days(1, 9000, 10, 20, 30, 40, 50, 60);
        due.is("the first day is dear", x.creeps(1), 0);
        x.use(1, 70);
        x.hours(23);
        due.is("an hour ahead of the day's end", x.creeps(1), 0);
        x.hours(1);
        due.is("the dear day is eight back", x.creeps(1), 1);
        BillWatch y = new BillWatch();
        y.begin(0, 10);
        for (int day = 0; day < 7; day++) {
            y.hours(23);
            y.use(0, day * 100);
            y.hours(1);
        }
        due.is("all hours of a day count", y.creeps(0), 1);
    }

    private static void wrongCreeps(Due due) {
        BillWatch x = new BillWatch();
        Due.pass(x, 167);
        due.is("creeps(0) at 167", x.creeps(0), -1);
        x.hours(1);
        due.is("creeps(0) at 168", x.creeps(0), 0);
        due.is("creeps(5) at 168", x.creeps(5), 0);
        for (int s : new int[] {-1, 6, Integer.MIN_VALUE, Integer.MAX_VALUE}) {
            due.is("creeps(" + s + ")", x.creeps(s), -1);
        }
    }
}
