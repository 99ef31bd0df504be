/** Promises 1, 4, 5, 9 and 10: a new object, begin, stop, look and machine. */
public final class MachinesTest {
    public static void main(String[] args) {
        Due due = new Due();
        aNewObject(due);
        begunInOrder(due);
        wrongBegins(due);
        fortyAtMost(due);
        stopped(due);
        begunAndStoppedInOneHour(due);
        wrongLooks(due);
        twoObjects(due);
        due.end();
    }

    private static void aNewObject(Due due) {
        BillWatch x = new BillWatch();
        int[] first = {0, 0, 0, 0, 0, 10};
        for (int what = 0; what < first.length; what++) {
            due.is("new: look(" + what + ")", x.look(what), first[what]);
        }
        for (int s = 0; s < 6; s++) {
            due.is("new: cost(" + s + ", 0)", x.cost(s, 0), 0);
        }
        for (int o = 0; o < 4; o++) {
            due.is("new: laid(" + o + ", 0, 1)", x.laid(o, 0, 1), 0);
        }
        due.is("new: machine(0, 0)", x.machine(0, 0), -1);
        due.is("new: cry(0, 0)", x.cry(0, 0), -1);
        due.is("new: season(0, 0, 2)", x.season(0, 0, 2), 0);
    }

    private static void begunInOrder(Due due) {
        BillWatch x = new BillWatch();
        due.is("begin(0, 1)", x.begin(0, 1), 0);
        due.is("begin(5, 999)", x.begin(5, 999), 1);
        x.hours(3);
        due.is("begin(5, 7)", x.begin(5, 7), 2);
        int[][] facts = {{0, 1, 0, -1}, {5, 999, 0, -1}, {5, 7, 3, -1}};
        for (int m = 0; m < facts.length; m++) {
            for (int what = 0; what < 4; what++) {
                due.is("machine(" + m + ", " + what + ")", x.machine(m, what), facts[m][what]);
            }
        }
        due.is("look(1)", x.look(1), 3);
        due.is("look(2)", x.look(2), 3);
        due.is("cost(5, 2)", x.cost(5, 2), 999);
        due.is("cost(5, 3)", x.cost(5, 3), 1006);
        due.is("cost(0, 3)", x.cost(0, 3), 1);
    }

    private static void wrongBegins(Due due) {
        BillWatch x = new BillWatch();
        int[][] wrong = {{-1, 5}, {6, 5}, {0, 0}, {0, -1}, {0, 1000}, {Integer.MIN_VALUE, 5},
            {Integer.MAX_VALUE, 5}, {0, Integer.MIN_VALUE}, {0, Integer.MAX_VALUE}};
        for (int[] w : wrong) {
            due.is("begin(" + w[0] + ", " + w[1] + ")", x.begin(w[0], w[1]), -1);
        }
        due.is("look(1) after wrong begins", x.look(1), 0);
        due.is("cost(0, 0) after wrong begins", x.cost(0, 0), 0);
    }

    private static void fortyAtMost(Due due) {
        BillWatch x = new BillWatch();
        for (int m = 0; m < 40; m++) {
            due.is("begin number " + m, x.begin(m % 6, 2), m);
        }
        due.yes("stop(3)", x.stop(3));
        due.is("a 41st, though one is stopped", x.begin(0, 2), -1);
        due.is("look(1)", x.look(1), 40);
        due.is("look(2)", x.look(2), 39);
        due.is("cost(0, 0) without a 41st", x.cost(0, 0), 14);
        due.is("machine(39, 0)", x.machine(39, 0), 3);
        due.is("machine(40, 0)", x.machine(40, 0), -1);
    }

    private static void stopped(Due due) {
        BillWatch x = new BillWatch();
        x.begin(1, 20);
        x.begin(1, 30);
        x.hours(2);
        due.no("stop(-1)", x.stop(-1));
        due.no("stop(2)", x.stop(2));
        due.no("stop(max)", x.stop(Integer.MAX_VALUE));
        due.no("stop(min)", x.stop(Integer.MIN_VALUE));
        due.yes("stop(0)", x.stop(0));
        due.no("stop(0) again", x.stop(0));
        due.is("machine(0, 3)", x.machine(0, 3), 2);
        due.is("machine(1, 3)", x.machine(1, 3), -1);
        due.is("look(2)", x.look(2), 1);
        due.is("look(1)", x.look(1), 2);
        due.is("cost(1, 1), the hour ahead of the stop", x.cost(1, 1), 50);
        due.is("cost(1, 2), the hour of the stop", x.cost(1, 2), 30);
        x.hours(1);
        due.no("stop(0) an hour later", x.stop(0));
        due.is("machine(0, 3) is not moved", x.machine(0, 3), 2);
        due.is("cost(1, 3)", x.cost(1, 3), 30);
        due.is("cost(1, 2) when over", x.cost(1, 2), 30);
    }

    private static void begunAndStoppedInOneHour(Due due) {
        BillWatch x = new BillWatch();
        x.hours(5);
        int m = x.begin(2, 500);
        due.is("cost while it runs", x.cost(2, 5), 500);
        due.yes("stop in its own hour", x.stop(m));
        due.is("cost after that", x.cost(2, 5), 0);
        x.hours(1);
        due.is("cost when over", x.cost(2, 5), 0);
        due.is("machine(0, 2)", x.machine(m, 2), 5);
        due.is("machine(0, 3)", x.machine(m, 3), 5);
    }

    private static void wrongLooks(Due due) {
        BillWatch x = new BillWatch();
        x.begin(0, 5);
        for (int what : new int[] {-1, 6, Integer.MIN_VALUE, Integer.MAX_VALUE}) {
            due.is("look(" + what + ")", x.look(what), -1);
        }
        for (int what : new int[] {-1, 4, Integer.MIN_VALUE, Integer.MAX_VALUE}) {
            due.is("machine(0, " + what + ")", x.machine(0, what), -1);
        }
        for (int m : new int[] {-1, 1, Integer.MIN_VALUE, Integer.MAX_VALUE}) {
            due.is("machine(" + m + ", 0)", x.machine(m, 0), -1);
        }
    }

    private static void twoObjects(Due due) {
        BillWatch x = new BillWatch();
        BillWatch y = new BillWatch();
        x.begin(0, 5);
        x.floor(3);
        x.hours(4);
        due.is("another object's hour", y.look(0), 0);
        due.is("another object's machines", y.look(1), 0);
        due.is("another object's floor", y.look(5), 10);
    }
}
