/**
 * A watch over bills: what services cost by the hour, jumps and creeping told from the season,
 * cries for their causes, costs laid to owners, and budgets with their forecast.
 */
public final class BillWatch {
    public static final int NONE = -1;

    private static final int HOURS = 2000;
    private static final int DAY = 24;
    private static final int WEEK = 7;
    private static final int SERVICES = 6;
    private static final int OWNERS = 4;

    private static final int MOST_HOURS_AT_ONCE = 48;
    private static final int MOST_MACHINES = 40;
    private static final int MOST_PRICE = 999;
    private static final int MOST_USED_AT_ONCE = 9999;
    private static final int MOST_USED = 99999;
    private static final int FIRST_FLOOR = 10;
    private static final int MOST_FLOOR = 9999;
    private static final int LEAST_SEASON = 3;
    private static final int SPREADS = 3;
    private static final int LEAST_RISE = 15;
    private static final int MOST_CRIES = 100;
    private static final int CRY_ENDS_AFTER = 6;
    private static final int MOST_SHARE = 9;
    private static final int MOST_SUM = 100000000;

    private final Ledger ledger;
    private final Machines machines;
    private final Seasons seasons;
    private final Trend trend;
    private final Cries cries;
    private final Shares shares;
    private final Bills bills;
    private final Budgets budgets;
    private int jumpFloor;

    public BillWatch() {
        ledger = new Ledger();
        machines = new Machines();
        seasons = new Seasons(ledger);
        trend = new Trend(ledger);
        cries = new Cries();
        shares = new Shares();
        bills = new Bills(ledger, shares);
        budgets = new Budgets(ledger, bills);
        jumpFloor = FIRST_FLOOR;
    }

    public boolean owner(int s, int o) {
        if (!isService(s) || !isOwner(o)) {
            return false;
        }
        shares.giveTo(s, o);
        return true;
    }

    public boolean share(int s, int a, int b, int c, int d) {
        if (!isService(s) || !isShare(a) || !isShare(b) || !isShare(c) || !isShare(d)) {
            return false;
        }
        if (a + b + c + d == 0) {
            return false;
        }
        shares.split(s, a, b, c, d);
        return true;
    }

    public int begin(int s, int price) {
        if (!isService(s) || price < 1 || price > MOST_PRICE || machines.isFull()) {
            return NONE;
        }
        ledger.addPrice(s, price);
        return machines.add(s, price, ledger.now());
    }

    public boolean stop(int m) {
        if (!machines.isRunning(m)) {
            return false;
        }
        ledger.addPrice(machines.serviceOf(m), -machines.priceOf(m));
        machines.end(m, ledger.now());
        return true;
    }

    public boolean use(int s, int cost) {
        if (!isService(s) || cost < 0 || cost > MOST_USED_AT_ONCE) {
            return false;
        }
        if (ledger.usedNow(s) + cost > MOST_USED) {
            return false;
        }
        ledger.addUsed(s, cost);
        return true;
    }

    public boolean floor(int v) {
        if (v < 0 || v > MOST_FLOOR) {
            return false;
        }
        jumpFloor = v;
        return true;
    }

    public int hours(int n) {
        if (n < 1 || n > MOST_HOURS_AT_ONCE || ledger.now() + n >= HOURS) {
            return NONE;
        }
        for (int i = 0; i < n; i++) {
            endHour();
        }
        return ledger.now();
    }

    public int look(int what) {
        switch (what) {
            case 0:
                return ledger.now();
            case 1:
                return machines.begunCount();
            case 2:
                return machines.runningCount();
            case 3:
                return cries.count();
            case 4:
                return cries.openCount();
            case 5:
                return jumpFloor;
            default:
                return NONE;
        }
    }

    public int machine(int m, int what) {
        if (!machines.isKnown(m)) {
            return NONE;
        }
        switch (what) {
            case 0:
                return machines.serviceOf(m);
            case 1:
                return machines.priceOf(m);
            case 2:
                return machines.begunAt(m);
            case 3:
                return machines.stoppedAt(m);
            default:
                return NONE;
        }
    }

    public int cost(int s, int hour) {
        if (!isService(s) || !isTold(hour)) {
            return NONE;
        }
        return ledger.costOf(s, hour);
    }

    public int season(int s, int hour, int what) {
        if (!isService(s) || !isTold(hour)) {
            return NONE;
        }
        if (what == 2) {
            return isJump(s, hour) ? 1 : 0;
        }
        if (what < 0 || what > 2 || !seasons.find(s, hour)) {
            return NONE;
        }
        return what == 0 ? seasons.expected() : seasons.spread();
    }

    public int creeps(int s) {
        int daysOver = ledger.now() / DAY;
        if (!isService(s) || daysOver < WEEK) {
            return NONE;
        }
        return trend.isCreeping(s, daysOver - WEEK) ? 1 : 0;
    }

    public int cry(int i, int what) {
        if (!cries.isKnown(i)) {
            return NONE;
        }
        switch (what) {
            case 0:
                return cries.serviceOf(i);
            case 1:
                return cries.causeOf(i);
            case 2:
                return cries.cameAt(i);
            case 3:
                return cries.lastAt(i);
            case 4:
                return cries.isOpen(i) ? 1 : 0;
            default:
                return NONE;
        }
    }

    public int laid(int o, int from, int to) {
        if (!isOwner(o) || from < 0 || from > to || to > ledger.now() + 1) {
            return NONE;
        }
        return bills.over(o, from, to);
    }

    public boolean budget(int o, int sum, int from, int to) {
        if (!isOwner(o) || sum < 0 || sum > MOST_SUM) {
            return false;
        }
        if (from < 0 || from >= to || to > HOURS) {
            return false;
        }
        budgets.set(o, sum, from, to);
        return true;
    }

    public int budgeted(int o, int what) {
        if (!isOwner(o)) {
            return NONE;
        }
        switch (what) {
            case 0:
                return budgets.sumOf(o);
            case 1:
                return budgets.spent(o);
            case 2:
                return budgets.spentUpAt(o, bills.forecastLow(o));
            case 3:
                return budgets.spentUpAt(o, bills.forecastHigh(o));
            case 4:
                return budgets.atEnd(o, bills.forecastLow(o));
            case 5:
                return budgets.atEnd(o, bills.forecastHigh(o));
            default:
                return NONE;
        }
    }

    private static boolean isService(int s) {
        return s >= 0 && s < SERVICES;
    }

    private static boolean isOwner(int o) {
        return o >= 0 && o < OWNERS;
    }

    private static boolean isShare(int share) {
        return share >= 0 && share <= MOST_SHARE;
    }

    private boolean isTold(int hour) {
        return hour >= 0 && hour <= ledger.now();
    }

    private boolean isJump(int s, int hour) {
        if (!seasons.find(s, hour)) {
            return false;
        }
        int most = seasons.expected() + SPREADS * seasons.spread() + jumpFloor;
        return ledger.costOf(s, hour) > most;
    }

    private void endHour() {
        int hour = ledger.now();
        for (int s = 0; s < SERVICES; s++) {
            if (isJump(s, hour)) {
                cries.raise(s, machines.newestDearest(s, hour), hour);
            }
        }
        cries.closeStale(hour);
        ledger.endHour();
    }

    /** The costs of each service, hour by hour, and the hour that is now. */
    private static final class Ledger {
        private final int[] past;
        private final int[] running;
        private final int[] used;
        private int now;

        Ledger() {
            past = new int[SERVICES * HOURS];
            running = new int[SERVICES];
            used = new int[SERVICES];
            now = 0;
        }

        int now() {
            return now;
        }

        int usedNow(int s) {
            return used[s];
        }

        void addUsed(int s, int more) {
            used[s] += more;
        }

        void addPrice(int s, int more) {
            running[s] += more;
        }

        int costOf(int s, int hour) {
            // only the hour that is now can still change: those that are over are kept as sums
            return hour == now ? running[s] + used[s] : past[s * HOURS + hour];
        }

        int costOfDay(int s, int day) {
            int sum = 0;
            for (int i = 0; i < DAY; i++) {
                sum += costOf(s, day * DAY + i);
            }
            return sum;
        }

        int leastOfLastDay(int s) {
            int least = costOf(s, now);
            for (int h = firstOfLastDay(); h < now; h++) {
                least = Math.min(least, costOf(s, h));
            }
            return least;
        }

        int greatestOfLastDay(int s) {
            int greatest = costOf(s, now);
            for (int h = firstOfLastDay(); h < now; h++) {
                greatest = Math.max(greatest, costOf(s, h));
            }
            return greatest;
        }

        void endHour() {
            for (int s = 0; s < SERVICES; s++) {
                past[s * HOURS + now] = running[s] + used[s];
                used[s] = 0;
            }
            now++;
        }

        private int firstOfLastDay() {
            return Math.max(0, now - DAY + 1);
        }
    }

    /** The machines, in the order in which they were begun. */
    private static final class Machines {
        private final int[] service;
        private final int[] price;
        private final int[] begun;
        private final int[] stopped;
        private int count;
        private int runningCount;

        Machines() {
            service = new int[MOST_MACHINES];
            price = new int[MOST_MACHINES];
            begun = new int[MOST_MACHINES];
            stopped = new int[MOST_MACHINES];
            count = 0;
            runningCount = 0;
        }

        boolean isFull() {
            return count >= MOST_MACHINES;
        }

        boolean isKnown(int m) {
            return m >= 0 && m < count;
        }

        boolean isRunning(int m) {
            return isKnown(m) && stopped[m] == NONE;
        }

        int add(int s, int cost, int hour) {
            int m = count;
            service[m] = s;
            price[m] = cost;
            begun[m] = hour;
            stopped[m] = NONE;
            count++;
            runningCount++;
            return m;
        }

        void end(int m, int hour) {
            stopped[m] = hour;
            runningCount--;
        }

        int begunCount() {
            return count;
        }

        int runningCount() {
            return runningCount;
        }

        int serviceOf(int m) {
            return service[m];
        }

        int priceOf(int m) {
            return price[m];
        }

        int begunAt(int m) {
            return begun[m];
        }

        int stoppedAt(int m) {
            return stopped[m];
        }

        /** Asked as the hour ends, so what is not stopped by now ran in it. */
        int newestDearest(int s, int hour) {
            int best = NONE;
            for (int m = 0; m < count; m++) {
                if (service[m] != s || stopped[m] != NONE || begun[m] <= hour - DAY) {
                    continue;
                }
                if (best == NONE || price[m] > price[best]) {
                    best = m;
                }
            }
            return best;
        }
    }

    /** What a service is expected to cost in an hour, told from the same hour of the days ahead. */
    private static final class Seasons {
        private final Ledger ledger;
        private final int[] row;
        private int expected;
        private int spread;

        Seasons(Ledger ledger) {
            this.ledger = ledger;
            row = new int[WEEK];
            expected = 0;
            spread = 0;
        }

        /** Whether there is a season; expected and spread are then those of this one. */
        boolean find(int s, int hour) {
            int n = gather(s, hour);
            if (n < LEAST_SEASON) {
                return false;
            }
            expected = median(n);
            for (int i = 0; i < n; i++) {
                row[i] = Math.abs(row[i] - expected);
            }
            spread = median(n);
            return true;
        }

        int expected() {
            return expected;
        }

        int spread() {
            return spread;
        }

        private int gather(int s, int hour) {
            int n = 0;
            for (int day = 1; day <= WEEK; day++) {
                int h = hour - day * DAY;
                if (h >= 0) {
                    row[n] = ledger.costOf(s, h);
                    n++;
                }
            }
            return n;
        }

        private int median(int n) {
            sort(n);
            return row[(n - 1) / 2];
        }

        private void sort(int n) {
            for (int i = 1; i < n; i++) {
                int x = row[i];
                int j = i;
                while (j > 0 && row[j - 1] > x) {
                    row[j] = row[j - 1];
                    j--;
                }
                row[j] = x;
            }
        }
    }

    /** Whether a service creeps upwards over a week of days. */
    private static final class Trend {
        private final Ledger ledger;
        private final int[] days;

        Trend(Ledger ledger) {
            this.ledger = ledger;
            days = new int[WEEK];
        }

        boolean isCreeping(int s, int firstDay) {
            for (int i = 0; i < WEEK; i++) {
                days[i] = ledger.costOfDay(s, firstDay + i);
            }
            // in tenths of a unit, since a division would lose the rest
            return rise() >= LEAST_RISE && 10 * days[WEEK - 1] > 11 * days[0];
        }

        private int rise() {
            int rise = 0;
            for (int later = 1; later < WEEK; later++) {
                for (int earlier = 0; earlier < later; earlier++) {
                    rise += Integer.compare(days[later], days[earlier]);
                }
            }
            return rise;
        }
    }

    /** The cries, in the order in which they came. */
    private static final class Cries {
        private final int[] service;
        private final int[] cause;
        private final int[] came;
        private final int[] last;
        private final boolean[] open;
        private int count;

        Cries() {
            service = new int[MOST_CRIES];
            cause = new int[MOST_CRIES];
            came = new int[MOST_CRIES];
            last = new int[MOST_CRIES];
            open = new boolean[MOST_CRIES];
            count = 0;
        }

        boolean isKnown(int i) {
            return i >= 0 && i < count;
        }

        int count() {
            return count;
        }

        int openCount() {
            int n = 0;
            for (int i = 0; i < count; i++) {
                if (open[i]) {
                    n++;
                }
            }
            return n;
        }

        int serviceOf(int i) {
            return service[i];
        }

        int causeOf(int i) {
            return cause[i];
        }

        int cameAt(int i) {
            return came[i];
        }

        int lastAt(int i) {
            return last[i];
        }

        boolean isOpen(int i) {
            return open[i];
        }

        void raise(int s, int why, int hour) {
            int i = openFor(s, why);
            if (i != NONE) {
                last[i] = hour;
            } else if (count < MOST_CRIES) {
                add(s, why, hour);
            }
        }

        void closeStale(int hour) {
            for (int i = 0; i < count; i++) {
                if (hour - last[i] >= CRY_ENDS_AFTER) {
                    open[i] = false;
                }
            }
        }

        private int openFor(int s, int why) {
            for (int i = 0; i < count; i++) {
                if (open[i] && service[i] == s && cause[i] == why) {
                    return i;
                }
            }
            return NONE;
        }

        private void add(int s, int why, int hour) {
            service[count] = s;
            cause[count] = why;
            came[count] = hour;
            last[count] = hour;
            open[count] = true;
            count++;
        }
    }

    /** Who bears how much of a service: one owner alone is one who has its only share. */
    private static final class Shares {
        private final int[] row;

        Shares() {
            row = new int[SERVICES * OWNERS];
            for (int s = 0; s < SERVICES; s++) {
                row[s * OWNERS] = 1;
            }
        }

        void giveTo(int s, int o) {
            for (int p = 0; p < OWNERS; p++) {
                row[s * OWNERS + p] = p == o ? 1 : 0;
            }
        }

        void split(int s, int a, int b, int c, int d) {
            row[s * OWNERS] = a;
            row[s * OWNERS + 1] = b;
            row[s * OWNERS + 2] = c;
            row[s * OWNERS + 3] = d;
        }

        int partOf(int s, int o, int cost) {
            int mine = row[s * OWNERS + o];
            int all = sumOf(s);
            // who has no share is given no unit that is left either; whoever has one makes all positive
            if (mine <= 0 || all <= 0) {
                return 0;
            }
            int whole = cost * mine / all;
            int rest = cost * mine % all;
            int left = cost;
            int ahead = 0;
            for (int p = 0; p < OWNERS; p++) {
                int weighed = cost * row[s * OWNERS + p];
                int theirs = weighed % all;
                left -= weighed / all;
                if (theirs > rest || (theirs == rest && p < o)) {
                    ahead++;
                }
            }
            // the units left are fewer than the owners with a rest, so nobody is given two
            return ahead < left ? whole + 1 : whole;
        }

        private int sumOf(int s) {
            int sum = 0;
            for (int p = 0; p < OWNERS; p++) {
                sum += row[s * OWNERS + p];
            }
            return sum;
        }
    }

    /** What is laid to owners, for hours up to now and by the forecast behind it. */
    private static final class Bills {
        private final Ledger ledger;
        private final Shares shares;

        Bills(Ledger ledger, Shares shares) {
            this.ledger = ledger;
            this.shares = shares;
        }

        int at(int o, int hour) {
            int sum = 0;
            for (int s = 0; s < SERVICES; s++) {
                sum += shares.partOf(s, o, ledger.costOf(s, hour));
            }
            return sum;
        }

        int over(int o, int from, int to) {
            int sum = 0;
            for (int h = from; h < to; h++) {
                sum += at(o, h);
            }
            return sum;
        }

        int forecastLow(int o) {
            int sum = 0;
            for (int s = 0; s < SERVICES; s++) {
                sum += shares.partOf(s, o, ledger.leastOfLastDay(s));
            }
            return sum;
        }

        int forecastHigh(int o) {
            int sum = 0;
            for (int s = 0; s < SERVICES; s++) {
                sum += shares.partOf(s, o, ledger.greatestOfLastDay(s));
            }
            return sum;
        }
    }

    /** The budgets; one that was never set is of no hours. */
    private static final class Budgets {
        private final Ledger ledger;
        private final Bills bills;
        private final int[] sum;
        private final int[] from;
        private final int[] to;

        Budgets(Ledger ledger, Bills bills) {
            this.ledger = ledger;
            this.bills = bills;
            sum = new int[OWNERS];
            from = new int[OWNERS];
            to = new int[OWNERS];
        }

        void set(int o, int newSum, int newFrom, int newTo) {
            sum[o] = newSum;
            from[o] = newFrom;
            to[o] = newTo;
        }

        int sumOf(int o) {
            return sum[o];
        }

        int spent(int o) {
            return bills.over(o, from[o], Math.min(to[o], ledger.now() + 1));
        }

        int spentUpAt(int o, int forecast) {
            int total = 0;
            for (int h = from[o]; h < to[o]; h++) {
                total += h <= ledger.now() ? bills.at(o, h) : forecast;
                if (total > sum[o]) {
                    return h;
                }
            }
            return NONE;
        }

        int atEnd(int o, int forecast) {
            int firstBehind = Math.max(from[o], ledger.now() + 1);
            int hoursBehind = Math.max(0, to[o] - firstBehind);
            return spent(o) + hoursBehind * forecast;
        }
    }
}
