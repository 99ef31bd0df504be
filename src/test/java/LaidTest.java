/** Promises 2, 3 and 15: owner, share and laid. */
public final class LaidTest {
    private static final int MIN = Integer.MIN_VALUE;
    private static final int MAX = Integer.MAX_VALUE;

    public static void main(String[] args) {
        Due due = new Due();
        atFirstToZero(due);
        toEachOwner(due);
        ownerRefused(due);
        allItsHoursAreTheirs(due);
        notSharedAnyMore(due);
        sharedFrom0To9(due);
        shared(due);
        shareRefused(due);
        costsOfTheOwnersServices(due);
        dividedDownwards(due);
        toTheLastUnit(due);
        ofLikeRestsTheLeastNumber(due);
        eachSharedServiceByItself(due);
        nothingIsLost(due);
        spans(due);
        noSuchSpan(due);
        noSuchOwner(due);
        due.end();
    }

    private static void laidNow(Due due, BillWatch x, int... parts) {
        int now = x.look(0);
        for (int o = 0; o < 4; o++) {
            due.is("laid(" + o + ", " + now + ", " + (now + 1) + ")", x.laid(o, now, now + 1), parts[o]);
        }
    }

    private static void atFirstToZero(Due due) {
        due.says("Terms", "SERVICES 0 .. 5, each with an OWNER 0 .. 3 (at first 0)");
        BillWatch x = new BillWatch();
        for (int s = 0; s < 6; s++) {
            x.use(s, 1 << s);
        }
        laidNow(due, x, 63, 0, 0, 0);
    }

    private static void toEachOwner(Due due) {
        due.says("Promise 2", "SERVICE s has an OWNER: true;");
        for (int s = 0; s < 6; s++) {
            BillWatch x = new BillWatch();
            x.use(s, 10);
            for (int o = 3; o >= 0; o--) {
                due.yes("owner(" + s + ", " + o + ")", x.owner(s, o));
                laidNow(due, x, o == 0 ? 10 : 0, o == 1 ? 10 : 0, o == 2 ? 10 : 0, o == 3 ? 10 : 0);
            }
            due.yes("owner(" + s + ", 0) again", x.owner(s, 0));
            laidNow(due, x, 10, 0, 0, 0);
        }
    }

    private static void ownerRefused(Due due) {
        due.says("Promise 2", "false, and nothing is done, if one can't be.");
        Twins twins = new Twins();
        int[][] wrong = {{-1, 1}, {6, 1}, {MIN, 1}, {MAX, 1}, {0, -1}, {0, 4}, {0, MIN}, {0, MAX}, {1, -1}, {1, 4},
            {6, 4}};
        for (int[] w : wrong) {
            due.no("owner(" + w[0] + ", " + w[1] + ")", twins.teased.owner(w[0], w[1]));
        }
        twins.alike(due);
    }

    private static void allItsHoursAreTheirs(Due due) {
        due.says("Promise 2", "all its HOURS are theirs.)");
        BillWatch x = new BillWatch();
        x.use(0, 10);
        x.use(5, 7);
        x.hours(1);
        x.use(5, 5);
        x.owner(5, 3);
        due.is("those that are over, and now", x.laid(3, 0, 2), 12);
        due.is("and not another's", x.laid(0, 0, 2), 10);
        x.hours(1);
        x.use(5, 1);
        due.is("and those that come", x.laid(3, 0, 3), 13);
        x.owner(5, 0);
        due.is("laid(0, 0, 3)", x.laid(0, 0, 3), 23);
        due.is("laid(3, 0, 3)", x.laid(3, 0, 3), 0);
    }

    private static void notSharedAnyMore(Due due) {
        due.says("Promise 2", "(It is not SHARED any more;");
        BillWatch x = new BillWatch();
        x.use(0, 10);
        x.share(0, 1, 1, 0, 0);
        laidNow(due, x, 5, 5, 0, 0);
        x.owner(0, 2);
        laidNow(due, x, 0, 0, 10, 0);
        x.share(0, 0, 2, 2, 0);
        laidNow(due, x, 0, 5, 5, 0);
        x.owner(0, 1);
        laidNow(due, x, 0, 10, 0, 0);
        x.hours(1);
        due.is("nor for an hour that is over", x.laid(1, 0, 1), 10);
    }

    private static void sharedFrom0To9(Due due) {
        due.says("Terms", "or SHARED: then each OWNER has a SHARE of it (0 .. 9, not all 0).");
        BillWatch x = new BillWatch();
        x.use(1, 40);
        due.no("share(1, 0, 0, 0, 0)", x.share(1, 0, 0, 0, 0));
        laidNow(due, x, 40, 0, 0, 0);
        for (int o = 0; o < 4; o++) {
            int[] sole = new int[4];
            sole[o] = 1;
            due.yes("the share of " + o + " alone, 1", x.share(1, sole[0], sole[1], sole[2], sole[3]));
            laidNow(due, x, sole[0] * 40, sole[1] * 40, sole[2] * 40, sole[3] * 40);
            due.yes("the share of " + o + ", 9", x.share(1, sole[0] * 9, sole[1] * 9, sole[2] * 9, sole[3] * 9));
            laidNow(due, x, sole[0] * 40, sole[1] * 40, sole[2] * 40, sole[3] * 40);
            due.no("the share of " + o + ", 10", x.share(1, sole[0] * 10, sole[1] * 10, sole[2] * 10, sole[3] * 10));
            due.no("the share of " + o + ", -1", x.share(1, 1 - 2 * sole[0], 1 - 2 * sole[1], 1 - 2 * sole[2],
                    1 - 2 * sole[3]));
            laidNow(due, x, sole[0] * 40, sole[1] * 40, sole[2] * 40, sole[3] * 40);
        }
        due.yes("share(1, 9, 9, 9, 9)", x.share(1, 9, 9, 9, 9));
        laidNow(due, x, 10, 10, 10, 10);
    }

    private static void shared(Due due) {
        due.says("Promise 3", "SERVICE s is SHARED: true;");
        for (int s = 0; s < 6; s++) {
            BillWatch x = new BillWatch();
            x.use(s, 20);
            x.hours(1);
            x.use(s, 40);
            due.yes("share(" + s + ", 1, 2, 3, 4)", x.share(s, 1, 2, 3, 4));
            laidNow(due, x, 4, 8, 12, 16);
            due.is("an hour that is over too", x.laid(3, 0, 1), 8);
            due.yes("share(" + s + ", 4, 0, 0, 1)", x.share(s, 4, 0, 0, 1));
            laidNow(due, x, 32, 0, 0, 8);
        }
    }

    private static void shareRefused(Due due) {
        due.says("Promise 3", "false, and nothing is done, if one can't be.");
        Twins twins = new Twins();
        int[][] wrong = {{-1, 1, 1, 1, 1}, {6, 1, 1, 1, 1}, {MAX, 1, 1, 1, 1}, {MIN, 1, 1, 1, 1}, {0, 0, 0, 0, 0},
            {1, 0, 0, 0, 0}, {0, -1, 1, 1, 1}, {0, 1, -1, 1, 1}, {0, 1, 1, -1, 1}, {0, 1, 1, 1, -1},
            {0, 10, 1, 1, 1}, {0, 1, 10, 1, 1}, {0, 1, 1, 10, 1}, {0, 1, 1, 1, 10}, {0, MAX, MAX, 1, 1},
            {0, MIN, 1, 1, 1}, {0, MIN, MIN, 0, 0}, {0, 2, -1, -1, 0}};
        for (int[] w : wrong) {
            due.no("share(" + w[0] + ", " + w[1] + ", " + w[2] + ", " + w[3] + ", " + w[4] + ")",
                    twins.teased.share(w[0], w[1], w[2], w[3], w[4]));
        }
        twins.alike(due);
    }

    private static void costsOfTheOwnersServices(Due due) {
        due.says("Terms", "LAID to an OWNER for an HOUR: COSTS of the OWNER's SERVICES,");
        BillWatch x = new BillWatch();
        int[] owners = {1, 2, 2, 3, 1, 0};
        for (int s = 0; s < 6; s++) {
            x.owner(s, owners[s]);
            x.use(s, 1 << s);
        }
        x.begin(2, 100);
        laidNow(due, x, 32, 1 + 16, 2 + 4 + 100, 8);
        x.hours(1);
        laidNow(due, x, 0, 0, 100, 0);
    }

    private static void dividedDownwards(Due due) {
        due.says("Terms", "and of each SHARED one their part: COST times SHARE by the sum of SHARES, divided downwards;");
        BillWatch x = new BillWatch();
        x.use(1, 12);
        x.share(1, 1, 2, 3, 6);
        laidNow(due, x, 1, 2, 3, 6);
        x.use(1, 2);
        // twelfths of 14: 14 (rest 2), 28 (rest 4), 42 (rest 6), 84 (rest 0); one unit is left
        laidNow(due, x, 1, 2, 4, 7);
        x.share(1, 0, 9, 0, 5);
        laidNow(due, x, 0, 9, 0, 5);
        x.hours(1);
        laidNow(due, x, 0, 0, 0, 0);
    }

    private static void toTheLastUnit(Due due) {
        due.says("Terms", "the units that are left go one by one to OWNERS with the greatest rest");
        BillWatch x = new BillWatch();
        x.use(2, 10);
        x.share(2, 1, 2, 4, 0);
        // sevenths: 10 (rest 3), 20 (rest 6), 40 (rest 5); two units are left
        laidNow(due, x, 1, 3, 6, 0);
        x.share(2, 5, 1, 5, 1);
        // twelfths: 50 (rest 2), 10 (rest 10), 50 (rest 2), 10 (rest 10); two units are left
        laidNow(due, x, 4, 1, 4, 1);
        x.use(2, 1);
        x.share(2, 1, 1, 1, 3);
        // sixths of 11: 11 (rest 5) three times, 33 (rest 3); three units are left
        laidNow(due, x, 2, 2, 2, 5);
        BillWatch one = new BillWatch();
        one.use(2, 1);
        one.share(2, 1, 0, 1, 2);
        // one unit alone: quarters of 1: rests 1 0 1 2
        laidNow(due, one, 0, 0, 0, 1);
    }

    private static void ofLikeRestsTheLeastNumber(Due due) {
        due.says("Terms", "(of like ones the least number).");
        BillWatch x = new BillWatch();
        x.use(1, 1);
        x.share(1, 1, 1, 1, 1);
        laidNow(due, x, 1, 0, 0, 0);
        x.share(1, 0, 1, 1, 1);
        laidNow(due, x, 0, 1, 0, 0);
        x.share(1, 0, 0, 9, 9);
        laidNow(due, x, 0, 0, 1, 0);
        x.use(1, 10);
        x.share(1, 1, 1, 1, 1);
        laidNow(due, x, 3, 3, 3, 2);
        x.share(1, 0, 1, 1, 1);
        laidNow(due, x, 0, 4, 4, 3);
        BillWatch y = new BillWatch();
        y.use(2, 10);
        y.share(2, 3, 3, 9, 1);
        // sixteenths: 30 (rest 14), 30 (rest 14), 90 (rest 10), 10 (rest 10); three units are left
        laidNow(due, y, 2, 2, 6, 0);
    }

    private static void eachSharedServiceByItself(Due due) {
        due.says("Terms", "and of each SHARED one their part");
        BillWatch x = new BillWatch();
        x.use(0, 1);
        x.use(1, 1);
        x.use(2, 4);
        x.share(0, 1, 1, 0, 0);
        x.share(1, 1, 1, 0, 0);
        x.owner(2, 1);
        // each shared unit is left in its own service, and goes to the least number
        laidNow(due, x, 2, 4, 0, 0);
        x.hours(1);
        x.use(0, 1);
        due.is("hour by hour too", x.laid(0, 0, 2), 3);
        due.is("hour by hour too", x.laid(1, 0, 2), 4);
    }

    private static void nothingIsLost(Due due) {
        due.says("Terms", "COST times SHARE by the sum of SHARES");
        BillWatch x = new BillWatch();
        for (int i = 0; i < 10; i++) {
            x.use(3, 9999);
        }
        x.use(3, 9);
        for (int m = 0; m < 40; m++) {
            x.begin(3, 999);
        }
        int dearest = 99999 + 40 * 999;
        for (int i = 1; i < 10; i++) {
            x.share(3, i, 9, (i * 7) % 10, (i * 3) % 10);
            int sum = 0;
            for (int o = 0; o < 4; o++) {
                sum += x.laid(o, 0, 1);
            }
            due.is("all four together, shares " + i, sum, dearest);
        }
        x.share(3, 0, 0, 0, 9);
        laidNow(due, x, 0, 0, 0, dearest);
    }

    private static void spans(Due due) {
        due.says("Promise 15", "What is LAID to OWNER o for the HOURS from .. to - 1 (up to now);");
        BillWatch x = new BillWatch();
        for (int h = 0; h < 5; h++) {
            x.use(0, 1 << h);
            if (h < 4) {
                x.hours(1);
            }
        }
        due.is("laid(0, 0, 5)", x.laid(0, 0, 5), 31);
        due.is("laid(0, 1, 4)", x.laid(0, 1, 4), 14);
        due.is("laid(0, 0, 1)", x.laid(0, 0, 1), 1);
        due.is("laid(0, 4, 5): now alone", x.laid(0, 4, 5), 16);
        for (int h = 0; h < 6; h++) {
            due.is("no hours: laid(0, " + h + ", " + h + ")", x.laid(0, h, h), 0);
        }
        due.is("laid(1, 0, 5)", x.laid(1, 0, 5), 0);
    }

    private static void noSuchSpan(Due due) {
        due.says("Promise 15", "NONE if one can't be (from above to, to above now + 1).");
        BillWatch x = new BillWatch();
        x.begin(0, 3);
        x.hours(4);
        int[][] wrong = {{0, 6}, {5, 6}, {6, 6}, {0, 2000}, {0, 2001}, {1, 0}, {3, 2}, {5, 4}, {-1, 2}, {-1, 0},
            {-1, -1}, {-2, -1}, {0, -1}, {MIN, 1}, {MIN, MIN}, {0, MAX}, {0, MIN}, {MAX, MAX}, {MAX, 0}, {MIN, MAX}};
        for (int[] w : wrong) {
            due.is("laid(0, " + w[0] + ", " + w[1] + ")", x.laid(0, w[0], w[1]), -1);
        }
        due.is("laid(0, 0, 5)", x.laid(0, 0, 5), 15);
    }

    private static void noSuchOwner(Due due) {
        due.says("Promise 15", "NONE if one can't be");
        BillWatch x = new BillWatch();
        for (int o : new int[] {-1, 4, MIN, MAX}) {
            due.is("laid(" + o + ", 0, 1)", x.laid(o, 0, 1), -1);
            due.is("laid(" + o + ", 0, 0)", x.laid(o, 0, 0), -1);
        }
        due.is("laid(3, 0, 1)", x.laid(3, 0, 1), 0);
    }
}
