/** Promises 2, 3 and 15: owner, share and laid. */
public final class LaidTest {
    public static void main(String[] args) {
        Due due = new Due();
        atFirstToZero(due);
        toAnOwner(due);
        wrongOwners(due);
        toTheLastUnit(due);
        greatestRestFirst(due);
        wrongShares(due);
        ownerAfterShare(due);
        serviceByService(due);
        spans(due);
        nothingIsLost(due);
        due.end();
    }

    private static void laidNow(Due due, BillWatch x, int... parts) {
        int now = x.look(0);
        for (int o = 0; o < 4; o++) {
            due.is("laid(" + o + ", " + now + ", " + (now + 1) + ")", x.laid(o, now, now + 1), parts[o]);
        }
    }

    private static void atFirstToZero(Due due) {
        BillWatch x = new BillWatch();
        for (int s = 0; s < 6; s++) {
            x.use(s, 1 << s);
        }
        laidNow(due, x, 63, 0, 0, 0);
    }

    private static void toAnOwner(Due due) {
        BillWatch x = new BillWatch();
        x.use(0, 10);
        x.use(5, 7);
        x.hours(1);
        x.use(5, 5);
        due.yes("owner(5, 3)", x.owner(5, 3));
        due.is("all its hours are theirs", x.laid(3, 0, 2), 12);
        due.is("and not another's", x.laid(0, 0, 2), 10);
        due.yes("owner(5, 3) again", x.owner(5, 3));
        due.yes("owner(5, 0)", x.owner(5, 0));
        due.is("laid(0, 0, 2)", x.laid(0, 0, 2), 22);
        due.is("laid(3, 0, 2)", x.laid(3, 0, 2), 0);
    }

    private static void wrongOwners(Due due) {
        BillWatch x = new BillWatch();
        x.use(0, 10);
        int[][] wrong = {{-1, 1}, {6, 1}, {0, -1}, {0, 4}, {Integer.MIN_VALUE, 1}, {Integer.MAX_VALUE, 1},
            {0, Integer.MIN_VALUE}, {0, Integer.MAX_VALUE}};
        for (int[] w : wrong) {
            due.no("owner(" + w[0] + ", " + w[1] + ")", x.owner(w[0], w[1]));
        }
        laidNow(due, x, 10, 0, 0, 0);
    }

    private static void toTheLastUnit(Due due) {
        BillWatch x = new BillWatch();
        x.use(1, 11);
        due.yes("share(1, 1, 1, 1, 1)", x.share(1, 1, 1, 1, 1));
        laidNow(due, x, 3, 3, 3, 2);
        due.yes("share(1, 0, 1, 1, 1)", x.share(1, 0, 1, 1, 1));
        laidNow(due, x, 0, 4, 4, 3);
        due.yes("share(1, 0, 0, 0, 9)", x.share(1, 0, 0, 0, 9));
        laidNow(due, x, 0, 0, 0, 11);
        due.yes("share(1, 1, 1, 1, 3)", x.share(1, 1, 1, 1, 3));
        // sixths: 11 (rest 5) three times, 33 (rest 3); three units are left
        laidNow(due, x, 2, 2, 2, 5);
        due.yes("share(1, 9, 9, 9, 9)", x.share(1, 9, 9, 9, 9));
        laidNow(due, x, 3, 3, 3, 2);
        x.hours(1);
        laidNow(due, x, 0, 0, 0, 0);
    }

    private static void greatestRestFirst(Due due) {
        BillWatch x = new BillWatch();
        x.use(2, 10);
        x.share(2, 1, 2, 4, 0);
        // sevenths: 10 (rest 3), 20 (rest 6), 40 (rest 5); two units are left
        laidNow(due, x, 1, 3, 6, 0);
        x.share(2, 5, 1, 5, 1);
        // twelfths: 50 (rest 2), 10 (rest 10), 50 (rest 2), 10 (rest 10); two units are left
        laidNow(due, x, 4, 1, 4, 1);
        x.share(2, 3, 3, 9, 1);
        // sixteenths: 30 (rest 14), 30 (rest 14), 90 (rest 10), 10 (rest 10); three units are left
        laidNow(due, x, 2, 2, 6, 0);
    }

    private static void wrongShares(Due due) {
        BillWatch x = new BillWatch();
        x.use(0, 10);
        x.share(0, 1, 1, 0, 0);
        int[][] wrong = {{-1, 1, 1, 1, 1}, {6, 1, 1, 1, 1}, {0, 0, 0, 0, 0}, {0, -1, 1, 1, 1}, {0, 1, -1, 1, 1},
            {0, 1, 1, -1, 1}, {0, 1, 1, 1, -1}, {0, 10, 1, 1, 1}, {0, 1, 10, 1, 1}, {0, 1, 1, 10, 1},
            {0, 1, 1, 1, 10}, {Integer.MAX_VALUE, 1, 1, 1, 1}, {Integer.MIN_VALUE, 1, 1, 1, 1},
            {0, Integer.MAX_VALUE, Integer.MAX_VALUE, 1, 1}, {0, Integer.MIN_VALUE, 1, 1, 1}};
        for (int[] w : wrong) {
            due.no("share(" + w[0] + ", " + w[1] + ", ..)", x.share(w[0], w[1], w[2], w[3], w[4]));
            laidNow(due, x, 5, 5, 0, 0);
        }
    }

    private static void ownerAfterShare(Due due) {
        BillWatch x = new BillWatch();
        x.use(0, 10);
        x.share(0, 1, 1, 0, 0);
        laidNow(due, x, 5, 5, 0, 0);
        x.owner(0, 2);
        laidNow(due, x, 0, 0, 10, 0);
        x.share(0, 0, 2, 2, 0);
        laidNow(due, x, 0, 5, 5, 0);
        x.owner(0, 1);
        laidNow(due, x, 0, 10, 0, 0);
    }

    private static void serviceByService(Due due) {
        BillWatch x = new BillWatch();
        x.use(0, 1);
        x.use(1, 1);
        x.use(2, 4);
        x.share(0, 1, 1, 0, 0);
        x.share(1, 1, 1, 0, 0);
        x.owner(2, 1);
        // each shared unit is left in its own service, and goes to the least number
        laidNow(due, x, 2, 4, 0, 0);
        x.hours(1);
        x.use(0, 1);
        due.is("hour by hour too", x.laid(0, 0, 2), 3);
    }

    private static void spans(Due due) {
        BillWatch x = new BillWatch();
        for (int h = 0; h < 5; h++) {
            x.use(0, 1 << h);
            if (h < 4) {
                x.hours(1);
            }
        }
        due.is("laid(0, 0, 5)", x.laid(0, 0, 5), 31);
        due.is("laid(0, 1, 4)", x.laid(0, 1, 4), 14);
        due.is("laid(0, 4, 5)", x.laid(0, 4, 5), 16);
        due.is("laid(0, 0, 0)", x.laid(0, 0, 0), 0);
        due.is("laid(0, 5, 5)", x.laid(0, 5, 5), 0);
        int[][] wrong = {{0, 0, 6}, {0, 6, 6}, {0, 3, 2}, {0, -1, 2}, {0, -2, -1}, {-1, 0, 1}, {4, 0, 1},
            {0, Integer.MIN_VALUE, 1}, {0, 0, Integer.MAX_VALUE}, {0, 0, Integer.MIN_VALUE},
            {0, Integer.MAX_VALUE, Integer.MAX_VALUE}, {Integer.MIN_VALUE, 0, 1}, {Integer.MAX_VALUE, 0, 1}};
        for (int[] w : wrong) {
            due.is("laid(" + w[0] + ", " + w[1] + ", " + w[2] + ")", x.laid(w[0], w[1], w[2]), -1);
        }
    }

    private static void nothingIsLost(Due due) {
        BillWatch x = new BillWatch();
        for (int i = 0; i < 10; i++) {
            x.use(3, 9999);
        }
        for (int m = 0; m < 40; m++) {
            x.begin(3, 999);
        }
        for (int i = 1; i < 10; i++) {
            x.share(3, i, 9, (i * 7) % 10, (i * 3) % 10);
            int sum = 0;
            for (int o = 0; o < 4; o++) {
                sum += x.laid(o, 0, 1);
            }
            due.is("all four together, shares " + i, sum, 99990 + 39960);
        }
    }
}
