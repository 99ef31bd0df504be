/** Promises 6, 8 and 11: use, hours and cost. */
public final class CostsTest {
    private static final int MIN = Integer.MIN_VALUE;
    private static final int MAX = Integer.MAX_VALUE;

    public static void main(String[] args) {
        Due due = new Due();
        usedNow(due);
        upTo9999AtATime(due);
        ofThatHourAndAdded(due);
        besidesForEachService(due);
        useRefused(due);
        useRefusedAbove99999(due);
        hoursGoBy(due);
        hoursRefused(due);
        hoursRefusedBeyond(due);
        theFirstHourAndTheLast(due);
        pricesAndUsed(due);
        costOfAnHour(due);
        asItIsNow(due);
        noSuchCost(due);
        due.end();
    }

    private static void fill(BillWatch x, int s) {
        for (int i = 0; i < 10; i++) {
            x.use(s, 9999);
        }
        x.use(s, 9);
    }

    private static void usedNow(Due due) {
        due.says("Promise 6", "USED now: true;");
        BillWatch x = new BillWatch();
        for (int s = 0; s < 6; s++) {
            due.yes("use(" + s + ", ..)", x.use(s, 10 + s));
        }
        for (int s = 0; s < 6; s++) {
            due.is("cost(" + s + ", 0)", x.cost(s, 0), 10 + s);
        }
    }

    private static void upTo9999AtATime(Due due) {
        due.says("Terms", "(0 .. 9999 at a time");
        BillWatch x = new BillWatch();
        due.no("use(3, -1)", x.use(3, -1));
        due.yes("use(3, 0)", x.use(3, 0));
        due.is("cost(3, 0)", x.cost(3, 0), 0);
        due.yes("use(3, 9999)", x.use(3, 9999));
        due.no("use(3, 10000)", x.use(3, 10000));
        due.is("cost(3, 0)", x.cost(3, 0), 9999);
    }

    private static void ofThatHourAndAdded(Due due) {
        due.says("Terms", "at a time, told in that HOUR, added).");
        BillWatch x = new BillWatch();
        x.use(3, 70);
        x.use(3, 5);
        due.is("cost(3, 0)", x.cost(3, 0), 75);
        x.hours(1);
        due.is("cost(3, 1): used was of one hour", x.cost(3, 1), 0);
        x.use(3, 4);
        due.is("cost(3, 0) stays", x.cost(3, 0), 75);
        due.is("cost(3, 1)", x.cost(3, 1), 4);
        x.hours(2);
        due.is("cost(3, 1) when over", x.cost(3, 1), 4);
        due.is("cost(3, 2)", x.cost(3, 2), 0);
        due.is("cost(3, 3)", x.cost(3, 3), 0);
    }

    private static void besidesForEachService(Due due) {
        due.says("Terms", "USED is what a SERVICE costs in an HOUR besides");
        BillWatch x = new BillWatch();
        for (int s = 0; s < 6; s++) {
            fill(x, s);
        }
        for (int s = 0; s < 6; s++) {
            due.is("cost(" + s + ", 0): each service has its own 99999", x.cost(s, 0), 99999);
        }
        BillWatch y = new BillWatch();
        for (int m = 0; m < 40; m++) {
            y.begin(0, 999);
        }
        fill(y, 0);
        due.is("cost(0, 0): prices do not count for the 99999", y.cost(0, 0), 99999 + 40 * 999);
    }

    private static void useRefused(Due due) {
        due.says("Promise 6", "false, and nothing is done: no such SERVICE, number");
        Twins twins = new Twins();
        int[][] wrong = {{-1, 5}, {6, 5}, {MIN, 5}, {MAX, 5}, {-1, 0}, {6, 0}, {0, -1}, {0, 10000}, {0, MIN},
            {0, MAX}, {5, -7}};
        for (int[] w : wrong) {
            due.no("use(" + w[0] + ", " + w[1] + ")", twins.teased.use(w[0], w[1]));
        }
        twins.alike(due);
    }

    private static void useRefusedAbove99999(Due due) {
        due.says("Promise 6", "or there would be more than 99999 in this HOUR.");
        BillWatch x = new BillWatch();
        for (int i = 0; i < 10; i++) {
            due.yes("use(0, 9999) number " + i, x.use(0, 9999));
        }
        due.no("use(0, 10): 100000 in all", x.use(0, 10));
        due.no("use(0, 9999)", x.use(0, 9999));
        due.yes("use(0, 9): 99999 in all", x.use(0, 9));
        due.no("use(0, 1)", x.use(0, 1));
        due.yes("use(0, 0)", x.use(0, 0));
        due.is("cost(0, 0)", x.cost(0, 0), 99999);
        x.hours(1);
        due.yes("use(0, 9999) in the next hour", x.use(0, 9999));
        due.is("cost(0, 1)", x.cost(0, 1), 9999);
        Twins twins = new Twins();
        twins.both(y -> fill(y, 1));
        due.no("use(1, 1)", twins.teased.use(1, 1));
        due.no("use(1, 9999)", twins.teased.use(1, 9999));
        twins.alike(due);
    }

    private static void hoursGoBy(Due due) {
        due.says("Promise 8", "So many HOURS (1 .. 48) go by: now;");
        BillWatch x = new BillWatch();
        due.is("hours(1)", x.hours(1), 1);
        due.is("look(0)", x.look(0), 1);
        due.is("hours(48)", x.hours(48), 49);
        due.is("look(0)", x.look(0), 49);
        due.is("hours(2)", x.hours(2), 51);
    }

    private static void hoursRefused(Due due) {
        due.says("Promise 8", "NONE, and nothing is done, if that can't be");
        Twins twins = new Twins();
        for (int n : new int[] {0, -1, -48, 49, MIN, MAX}) {
            due.is("hours(" + n + ")", twins.teased.hours(n), -1);
        }
        twins.alike(due);
    }

    private static void hoursRefusedBeyond(Due due) {
        due.says("Promise 8", "or it would be beyond.");
        BillWatch x = new BillWatch();
        Due.pass(x, 1968);
        due.is("hours(32): one beyond", x.hours(32), -1);
        due.is("look(0)", x.look(0), 1968);
        due.is("hours(31)", x.hours(31), 1999);
        due.is("hours(1) at the end", x.hours(1), -1);
        due.is("hours(48) at the end", x.hours(48), -1);
        due.is("look(0)", x.look(0), 1999);
        Twins twins = new Twins();
        twins.both(y -> Due.pass(y, 1980 - y.look(0)));
        due.is("hours(20) at 1980", twins.teased.hours(20), -1);
        due.is("hours(48) at 1980", twins.teased.hours(48), -1);
        twins.alike(due);
    }

    private static void theFirstHourAndTheLast(Due due) {
        due.says("Terms", "HOURS 0 .. 1999 (0 now, at first)");
        BillWatch x = new BillWatch();
        due.is("now, at first", x.look(0), 0);
        x.begin(5, 3);
        due.is("cost(5, -1)", x.cost(5, -1), -1);
        due.is("cost(5, 0)", x.cost(5, 0), 3);
        Due.pass(x, 1999);
        due.is("cost(5, 0)", x.cost(5, 0), 3);
        due.is("cost(5, 1998)", x.cost(5, 1998), 3);
        due.is("cost(5, 1999)", x.cost(5, 1999), 3);
        due.is("cost(5, 2000)", x.cost(5, 2000), -1);
        due.is("season(5, 1999, 0)", x.season(5, 1999, 0), 3);
        due.is("season(5, 2000, 0)", x.season(5, 2000, 0), -1);
        due.is("laid(0, 0, 2000)", x.laid(0, 0, 2000), 6000);
        due.is("laid(0, 1999, 2000)", x.laid(0, 1999, 2000), 3);
        due.is("laid(0, 2000, 2000)", x.laid(0, 2000, 2000), 0);
        due.is("laid(0, 0, 2001)", x.laid(0, 0, 2001), -1);
        due.is("creeps(5)", x.creeps(5), 0);
        due.yes("use in the last hour", x.use(5, 4));
        due.is("begin in the last hour", x.begin(4, 6), 1);
        due.yes("stop in the last hour", x.stop(0));
        due.is("machine(0, 3)", x.machine(0, 3), 1999);
        due.is("cost(5, 1999)", x.cost(5, 1999), 4);
        due.is("cost(4, 1999)", x.cost(4, 1999), 6);
    }

    private static void pricesAndUsed(Due due) {
        due.says("Terms", "The COST of a SERVICE in an HOUR: the PRICES of its MACHINES that run then, and USED.");
        BillWatch x = new BillWatch();
        x.begin(3, 100);
        x.begin(3, 20);
        x.begin(2, 7);
        x.use(3, 5);
        due.is("cost(3, 0): two machines and used", x.cost(3, 0), 125);
        due.is("cost(2, 0): one machine", x.cost(2, 0), 7);
        due.is("cost(1, 0): none of that service", x.cost(1, 0), 0);
        x.hours(1);
        x.stop(0);
        x.use(1, 9);
        x.hours(1);
        due.is("cost(3, 0)", x.cost(3, 0), 125);
        due.is("cost(3, 1): the one that runs on", x.cost(3, 1), 20);
        due.is("cost(3, 2)", x.cost(3, 2), 20);
        due.is("cost(1, 1): used alone", x.cost(1, 1), 9);
    }

    private static void costOfAnHour(Due due) {
        due.says("Promise 11", "COST of SERVICE s in an HOUR;");
        BillWatch x = new BillWatch();
        x.begin(0, 3);
        x.begin(5, 4);
        x.hours(6);
        x.use(5, 30);
        x.hours(1);
        due.is("cost(0, 6)", x.cost(0, 6), 3);
        due.is("cost(5, 5)", x.cost(5, 5), 4);
        due.is("cost(5, 6)", x.cost(5, 6), 34);
        due.is("cost(5, 7)", x.cost(5, 7), 4);
    }

    private static void asItIsNow(Due due) {
        due.says("Terms", "It is told for HOURS up to now (as it is now).");
        BillWatch x = new BillWatch();
        x.hours(4);
        due.is("cost(0, 4)", x.cost(0, 4), 0);
        due.is("cost(0, 5)", x.cost(0, 5), -1);
        x.begin(0, 8);
        due.is("cost(0, 4) with a machine more", x.cost(0, 4), 8);
        x.use(0, 2);
        due.is("cost(0, 4) with used", x.cost(0, 4), 10);
        x.stop(0);
        due.is("cost(0, 4) with a machine less", x.cost(0, 4), 2);
    }

    private static void noSuchCost(Due due) {
        due.says("Promise 11", "NONE if one can't be (behind now).");
        BillWatch x = new BillWatch();
        due.is("at first: cost(0, 1)", x.cost(0, 1), -1);
        x.hours(4);
        int[][] wrong = {{-1, 0}, {6, 0}, {MIN, 0}, {MAX, 0}, {0, -1}, {0, 5}, {0, 1999}, {0, 2000}, {0, MIN},
            {0, MAX}, {-1, -1}, {6, 5}};
        for (int[] w : wrong) {
            due.is("cost(" + w[0] + ", " + w[1] + ")", x.cost(w[0], w[1]), -1);
        }
        due.is("cost(5, 4)", x.cost(5, 4), 0);
    }
}
