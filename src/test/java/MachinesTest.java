/** Promises 1, 4, 5, 9 and 10: a new object, begin, stop, look and machine. */
public final class MachinesTest {
    private static final int MIN = Integer.MIN_VALUE;
    private static final int MAX = Integer.MAX_VALUE;

    public static void main(String[] args) {
        Due due = new Due();
        theConstant(due);
        aNewObject(due);
        nothingRuns(due);
        twoObjects(due);
        numberedAsBegun(due);
        fortyAtMost(due);
        pricesFrom1To999(due);
        fromBegunUntilStopped(due);
        beginRefused(due);
        beginRefusedWhenThereWere40(due);
        stopped(due);
        noneSuchRuns(due);
        begunAndStoppedInOneHour(due);
        looks(due);
        anotherLook(due);
        ofAMachine(due);
        noSuchMachine(due);
        anotherOfAMachine(due);
        due.end();
    }

    private static void theConstant(Due due) {
        due.says("Terms", "The constants: `NONE = -1`: There is none.");
        due.is("NONE", BillWatch.NONE, -1);
    }

    private static void aNewObject(Due due) {
        due.says("Promise 1", "HOUR 0");
        BillWatch x = new BillWatch();
        due.is("look(0)", x.look(0), 0);
        due.is("cost(0, 0): up to now", x.cost(0, 0), 0);
        due.is("cost(0, 1): behind now", x.cost(0, 1), -1);
        due.is("laid(0, 0, 1)", x.laid(0, 0, 1), 0);
        due.is("laid(0, 0, 2)", x.laid(0, 0, 2), -1);
    }

    private static void nothingRuns(Due due) {
        due.says("Promise 1", "nothing runs.");
        BillWatch x = new BillWatch();
        int[] first = {0, 0, 0, 0, 0, 10};
        for (int what = 0; what < first.length; what++) {
            due.is("look(" + what + ")", x.look(what), first[what]);
        }
        for (int s = 0; s < 6; s++) {
            due.is("cost(" + s + ", 0)", x.cost(s, 0), 0);
            due.is("season(" + s + ", 0, 0)", x.season(s, 0, 0), -1);
            due.is("season(" + s + ", 0, 2)", x.season(s, 0, 2), 0);
            due.is("creeps(" + s + ")", x.creeps(s), -1);
        }
        for (int o = 0; o < 4; o++) {
            due.is("laid(" + o + ", 0, 1)", x.laid(o, 0, 1), 0);
        }
        due.no("stop(0)", x.stop(0));
        due.is("machine(0, 0)", x.machine(0, 0), -1);
        due.is("cry(0, 0)", x.cry(0, 0), -1);
    }

    private static void twoObjects(Due due) {
        due.says("Promise 1", "HOUR 0, nothing runs.");
        BillWatch x = new BillWatch();
        x.begin(0, 5);
        x.floor(3);
        x.owner(1, 2);
        x.budget(0, 5, 0, 1);
        x.hours(4);
        BillWatch y = new BillWatch();
        y.use(1, 8);
        due.is("another object's hour", y.look(0), 0);
        due.is("another object's machines", y.look(1), 0);
        due.is("another object's floor", y.look(5), 10);
        due.is("another object's owners", y.laid(0, 0, 1), 8);
        due.is("another object's budget", y.budgeted(0, 0), 0);
    }

    private static void numberedAsBegun(Due due) {
        due.says("Promise 4", "A MACHINE is begun: its number;");
        BillWatch x = new BillWatch();
        due.is("begin(0, 1)", x.begin(0, 1), 0);
        due.is("begin(5, 999)", x.begin(5, 999), 1);
        x.hours(3);
        due.is("begin(5, 7)", x.begin(5, 7), 2);
        due.is("look(1)", x.look(1), 3);
        due.is("look(2)", x.look(2), 3);
        x.stop(2);
        due.is("a stopped one's number is not given again", x.begin(0, 4), 3);
    }

    private static void fortyAtMost(Due due) {
        due.says("Terms", "MACHINES (40 at most, numbered as they are begun) are of a SERVICE");
        BillWatch x = new BillWatch();
        for (int m = 0; m < 40; m++) {
            due.is("begin number " + m, x.begin(m % 6, 2), m);
        }
        due.is("a 41st", x.begin(0, 2), -1);
        due.is("look(1)", x.look(1), 40);
        due.is("look(2)", x.look(2), 40);
        due.is("machine(39, 0)", x.machine(39, 0), 3);
        due.is("machine(40, 0)", x.machine(40, 0), -1);
        int[] costs = {14, 14, 14, 14, 12, 12};
        for (int s = 0; s < 6; s++) {
            due.is("cost(" + s + ", 0)", x.cost(s, 0), costs[s]);
        }
        due.yes("stop(39): the last of them", x.stop(39));
        due.is("cost(3, 0)", x.cost(3, 0), 12);
    }

    private static void pricesFrom1To999(Due due) {
        due.says("Terms", "and cost a PRICE (1 .. 999) each HOUR");
        BillWatch x = new BillWatch();
        due.is("begin(2, 0)", x.begin(2, 0), -1);
        due.is("begin(2, 1)", x.begin(2, 1), 0);
        due.is("begin(3, 999)", x.begin(3, 999), 1);
        due.is("begin(3, 1000)", x.begin(3, 1000), -1);
        x.hours(2);
        for (int h = 0; h < 3; h++) {
            due.is("cost(2, " + h + ")", x.cost(2, h), 1);
            due.is("cost(3, " + h + ")", x.cost(3, h), 999);
        }
    }

    private static void fromBegunUntilStopped(Due due) {
        due.says("Terms",
                "each HOUR from the one in which they are begun until ahead of the one in which they are stopped.");
        BillWatch x = new BillWatch();
        x.hours(2);
        x.begin(1, 20);
        x.hours(3);
        x.stop(0);
        x.hours(2);
        int[] costs = {0, 0, 20, 20, 20, 0, 0, 0};
        for (int h = 0; h < costs.length; h++) {
            due.is("cost(1, " + h + ")", x.cost(1, h), costs[h]);
        }
    }

    private static void beginRefused(Due due) {
        due.says("Promise 4", "NONE, and nothing is done, if one can't be");
        Twins twins = new Twins();
        int[][] wrong = {{-1, 5}, {6, 5}, {MIN, 5}, {MAX, 5}, {0, 0}, {0, -1}, {0, 1000}, {0, MIN}, {0, MAX}, {6, 0}};
        for (int[] w : wrong) {
            due.is("begin(" + w[0] + ", " + w[1] + ")", twins.teased.begin(w[0], w[1]), -1);
        }
        twins.alike(due);
    }

    private static void beginRefusedWhenThereWere40(Due due) {
        due.says("Promise 4", "NONE, and nothing is done, if one can't be, or there were 40.");
        Twins twins = new Twins();
        twins.both(x -> {
            for (int m = x.look(1); m < 40; m++) {
                x.begin(m % 6, m);
            }
            x.stop(39);
        });
        due.is("a 41st, though not all run", twins.teased.begin(0, 50), -1);
        due.is("a 41st of another service", twins.teased.begin(5, 1), -1);
        twins.alike(due);
    }

    private static void stopped(Due due) {
        due.says("Promise 5", "MACHINE m is stopped: true;");
        BillWatch x = new BillWatch();
        x.begin(1, 20);
        x.begin(1, 30);
        x.hours(2);
        due.yes("stop(0)", x.stop(0));
        due.is("machine(0, 3)", x.machine(0, 3), 2);
        due.is("machine(1, 3)", x.machine(1, 3), -1);
        due.is("look(2)", x.look(2), 1);
        due.is("look(1)", x.look(1), 2);
        due.is("cost(1, 1), the hour ahead of the stop", x.cost(1, 1), 50);
        due.is("cost(1, 2), the hour of the stop", x.cost(1, 2), 30);
        x.hours(1);
        due.is("cost(1, 3)", x.cost(1, 3), 30);
        due.is("cost(1, 2) when over", x.cost(1, 2), 30);
        due.yes("stop(1)", x.stop(1));
        due.is("look(2) when none runs", x.look(2), 0);
    }

    private static void noneSuchRuns(Due due) {
        due.says("Promise 5", "false if none such runs.");
        due.no("stop(0) when none was begun", new BillWatch().stop(0));
        Twins twins = new Twins();
        int begun = twins.teased.look(1);
        for (int m : new int[] {-1, begun, 39, 40, MIN, MAX}) {
            due.no("stop(" + m + ")", twins.teased.stop(m));
        }
        due.no("stop(1), which was stopped hours ago", twins.teased.stop(1));
        twins.both(x -> x.stop(2));
        due.no("stop(2), which was stopped in this hour", twins.teased.stop(2));
        twins.alike(due);
    }

    private static void begunAndStoppedInOneHour(Due due) {
        due.says("Promise 5", "(Begun and stopped in one HOUR, it costs nothing.)");
        BillWatch x = new BillWatch();
        x.hours(5);
        int m = x.begin(2, 500);
        due.is("cost while it runs", x.cost(2, 5), 500);
        due.yes("stop in its own hour", x.stop(m));
        due.is("cost after that", x.cost(2, 5), 0);
        due.is("laid after that", x.laid(0, 0, 6), 0);
        x.hours(1);
        due.is("cost when over", x.cost(2, 5), 0);
        due.is("cost behind it", x.cost(2, 6), 0);
        due.is("machine(0, 2)", x.machine(m, 2), 5);
        due.is("machine(0, 3)", x.machine(m, 3), 5);
        due.is("it was begun", x.look(1), 1);
        due.is("it does not run", x.look(2), 0);
        BillWatch y = new BillWatch();
        y.begin(0, 9);
        y.stop(0);
        due.is("in hour 0: machine(0, 3)", y.machine(0, 3), 0);
        due.no("in hour 0: stop(0) again", y.stop(0));
        due.is("in hour 0: look(2)", y.look(2), 0);
    }

    private static void looks(Due due) {
        due.says("Promise 9", "What 0 HOUR, 1 MACHINES begun, 2 those that run, 3 CRIES, 4 those OPEN, 5 FLOOR.");
        BillWatch x = new BillWatch();
        x.begin(0, 1);
        x.begin(0, 2);
        x.begin(0, 3);
        x.stop(1);
        Due.pass(x, 72);
        x.use(1, 100);
        x.hours(7);
        x.use(2, 100);
        x.use(3, 100);
        x.hours(1);
        x.floor(77);
        int[] seen = {80, 3, 2, 3, 2, 77};
        for (int what = 0; what < seen.length; what++) {
            due.is("look(" + what + ")", x.look(what), seen[what]);
        }
    }

    private static void anotherLook(Due due) {
        due.says("Promise 9", "NONE for another what.");
        BillWatch x = new BillWatch();
        for (int what : new int[] {-1, 6, MIN, MAX}) {
            due.is("look(" + what + ")", x.look(what), -1);
        }
    }

    private static void ofAMachine(Due due) {
        due.says("Promise 10", "Of MACHINE m what 0 SERVICE, 1 PRICE, 2 the HOUR in which it was begun, "
                + "3 that in which it was stopped (NONE).");
        BillWatch x = new BillWatch();
        x.begin(0, 1);
        x.begin(5, 999);
        x.hours(3);
        x.begin(4, 7);
        x.stop(0);
        x.hours(2);
        int[][] facts = {{0, 1, 0, 3}, {5, 999, 0, -1}, {4, 7, 3, -1}};
        for (int m = 0; m < facts.length; m++) {
            for (int what = 0; what < 4; what++) {
                due.is("machine(" + m + ", " + what + ")", x.machine(m, what), facts[m][what]);
            }
        }
    }

    private static void noSuchMachine(Due due) {
        due.says("Promise 10", "NONE if there is none such");
        BillWatch x = new BillWatch();
        for (int what = 0; what < 4; what++) {
            due.is("none begun: machine(0, " + what + ")", x.machine(0, what), -1);
        }
        x.begin(3, 5);
        for (int m : new int[] {-1, 1, 39, 40, MIN, MAX}) {
            for (int what = 0; what < 4; what++) {
                due.is("machine(" + m + ", " + what + ")", x.machine(m, what), -1);
            }
        }
        due.is("machine(0, 0)", x.machine(0, 0), 3);
    }

    private static void anotherOfAMachine(Due due) {
        due.says("Promise 10", "NONE if there is none such, or another what.");
        BillWatch x = new BillWatch();
        x.begin(0, 5);
        x.hours(2);
        x.stop(0);
        for (int what : new int[] {-1, 4, MIN, MAX}) {
            due.is("machine(0, " + what + ")", x.machine(0, what), -1);
        }
    }
}
