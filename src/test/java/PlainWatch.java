import java.util.ArrayList;
import java.util.Arrays;
import java.util.List;

/** The document once more, with nothing kept but what was told: each answer is worked out anew. */
final class PlainWatch {
    private record Machine(int service, int price, int begun, int[] stopped) {
        boolean ranIn(int hour) {
            return begun <= hour && (stopped[0] < 0 || hour < stopped[0]);
        }
    }

    private record Cry(int service, int cause, int came, int[] last, boolean[] open) {
    }

    private final List<Machine> machines = new ArrayList<>();
    private final List<Cry> cries = new ArrayList<>();
    private final int[][] used = new int[6][2000];
    private final int[] owner = new int[6];
    private final int[][] shares = new int[6][];
    private final int[][] budgets = new int[4][3];
    private int now;
    private int floor = 10;

    private static boolean in(int x, int least, int most) {
        return least <= x && x <= most;
    }

    boolean owner(int s, int o) {
        if (!in(s, 0, 5) || !in(o, 0, 3)) {
            return false;
        }
        owner[s] = o;
        shares[s] = null;
        return true;
    }

    boolean share(int s, int a, int b, int c, int d) {
        int[] row = {a, b, c, d};
        if (!in(s, 0, 5) || Arrays.stream(row).anyMatch(v -> !in(v, 0, 9)) || Arrays.stream(row).sum() == 0) {
            return false;
        }
        shares[s] = row;
        return true;
    }

    int begin(int s, int price) {
        if (!in(s, 0, 5) || !in(price, 1, 999) || machines.size() == 40) {
            return -1;
        }
        machines.add(new Machine(s, price, now, new int[] {-1}));
        return machines.size() - 1;
    }

    boolean stop(int m) {
        if (!in(m, 0, machines.size() - 1) || machines.get(m).stopped[0] >= 0) {
            return false;
        }
        machines.get(m).stopped[0] = now;
        return true;
    }

    boolean use(int s, int cost) {
        if (!in(s, 0, 5) || !in(cost, 0, 9999) || used[s][now] + cost > 99999) {
            return false;
        }
        used[s][now] += cost;
        return true;
    }

    boolean floor(int v) {
        if (!in(v, 0, 9999)) {
            return false;
        }
        floor = v;
        return true;
    }

    int hours(int n) {
        if (!in(n, 1, 48) || now + n > 1999) {
            return -1;
        }
        for (int i = 0; i < n; i++) {
            now++;
            over(now - 1);
        }
        return now;
    }

    private void over(int hour) {
        for (int s = 0; s < 6; s++) {
            if (season(s, hour, 2) == 1) {
                int service = s;
                int cause = cause(s, hour);
                if (cries.size() < 100 && cries.stream().noneMatch(c -> c.open[0] && c.service == service && c.cause == cause)) {
                    cries.add(new Cry(s, cause, hour, new int[] {hour}, new boolean[] {true}));
                }
                cries.stream().filter(c -> c.open[0] && c.service == service && c.cause == cause)
                        .forEach(c -> c.last[0] = hour);
            }
        }
        cries.stream().filter(c -> c.last[0] == hour - 6).forEach(c -> c.open[0] = false);
    }

    private int cause(int s, int hour) {
        int best = -1;
        for (int m = machines.size() - 1; m >= 0; m--) {
            Machine x = machines.get(m);
            if (x.service == s && x.ranIn(hour) && in(x.begun, hour - 23, hour)
                    && (best < 0 || x.price >= machines.get(best).price)) {
                best = m;
            }
        }
        return best;
    }

    int look(int what) {
        long running = machines.stream().filter(m -> m.stopped[0] < 0).count();
        long open = cries.stream().filter(c -> c.open[0]).count();
        int[] facts = {now, machines.size(), (int) running, cries.size(), (int) open, floor};
        return in(what, 0, 5) ? facts[what] : -1;
    }

    int machine(int m, int what) {
        if (!in(m, 0, machines.size() - 1) || !in(what, 0, 3)) {
            return -1;
        }
        Machine x = machines.get(m);
        return new int[] {x.service, x.price, x.begun, x.stopped[0]}[what];
    }

    int cost(int s, int hour) {
        if (!in(s, 0, 5) || !in(hour, 0, now)) {
            return -1;
        }
        int prices = machines.stream().filter(m -> m.service == s && m.ranIn(hour)).mapToInt(Machine::price).sum();
        return prices + used[s][hour];
    }

    private static int median(int[] numbers) {
        int[] sorted = numbers.clone();
        Arrays.sort(sorted);
        return sorted[(sorted.length - 1) / 2];
    }

    int season(int s, int hour, int what) {
        if (!in(s, 0, 5) || !in(hour, 0, now) || !in(what, 0, 2)) {
            return -1;
        }
        List<Integer> costs = new ArrayList<>();
        for (int h = hour - 24; h >= 0 && h >= hour - 168; h -= 24) {
            costs.add(cost(s, h));
        }
        if (costs.size() < 3) {
            return what == 2 ? 0 : -1;
        }
        int expected = median(costs.stream().mapToInt(c -> c).toArray());
        int spread = median(costs.stream().mapToInt(c -> Math.abs(c - expected)).toArray());
        int jump = cost(s, hour) > expected + 3 * spread + floor ? 1 : 0;
        return new int[] {expected, spread, jump}[what];
    }

    int creeps(int s) {
        if (!in(s, 0, 5) || now < 168) {
            return -1;
        }
        long[] days = new long[7];
        for (int i = 0; i < 168; i++) {
            days[i / 24] += cost(s, (now / 24 - 7) * 24 + i);
        }
        int more = 0;
        int less = 0;
        for (int i = 0; i < 7; i++) {
            for (int j = i + 1; j < 7; j++) {
                more += days[j] > days[i] ? 1 : 0;
                less += days[j] < days[i] ? 1 : 0;
            }
        }
        return more >= less + 15 && days[6] * 10 > days[0] * 11 ? 1 : 0;
    }

    int cry(int i, int what) {
        if (!in(i, 0, cries.size() - 1) || !in(what, 0, 4)) {
            return -1;
        }
        Cry c = cries.get(i);
        return new int[] {c.service, c.cause, c.came, c.last[0], c.open[0] ? 1 : 0}[what];
    }

    /** The parts of one cost, its left units dealt out one after the other. */
    private int[] parts(int s, int cost) {
        int[] parts = new int[4];
        if (shares[s] == null) {
            parts[owner[s]] = cost;
            return parts;
        }
        int all = Arrays.stream(shares[s]).sum();
        int[] rests = new int[4];
        for (int o = 0; o < 4; o++) {
            parts[o] = cost * shares[s][o] / all;
            rests[o] = cost * shares[s][o] - parts[o] * all;
        }
        for (int left = cost - Arrays.stream(parts).sum(); left > 0; left--) {
            int best = 0;
            for (int o = 1; o < 4; o++) {
                best = rests[o] > rests[best] ? o : best;
            }
            parts[best]++;
            rests[best] = -1;
        }
        return parts;
    }

    int laid(int o, int from, int to) {
        if (!in(o, 0, 3) || from < 0 || from > to || to > now + 1) {
            return -1;
        }
        int sum = 0;
        for (int h = from; h < to; h++) {
            sum += laidAt(o, h, false);
        }
        return sum;
    }

    private int laidAt(int o, int hour, boolean high) {
        int sum = 0;
        for (int s = 0; s < 6; s++) {
            sum += parts(s, hour <= now ? cost(s, hour) : forecast(s, high))[o];
        }
        return sum;
    }

    private int forecast(int s, boolean high) {
        List<Integer> costs = new ArrayList<>();
        for (int h = now; h >= 0 && costs.size() < 24; h--) {
            costs.add(cost(s, h));
        }
        costs.sort(null);
        return costs.get(high ? costs.size() - 1 : 0);
    }

    boolean budget(int o, int sum, int from, int to) {
        if (!in(o, 0, 3) || !in(sum, 0, 100000000) || from < 0 || from >= to || to > 2000) {
            return false;
        }
        budgets[o] = new int[] {sum, from, to};
        return true;
    }

    int budgeted(int o, int what) {
        if (!in(o, 0, 3) || !in(what, 0, 5)) {
            return -1;
        }
        boolean high = what == 3 || what == 5;
        int behind = laidAt(o, now + 1, high);
        int spent = 0;
        int total = 0;
        int up = -1;
        for (int h = budgets[o][1]; h < budgets[o][2]; h++) {
            int more = h <= now ? laidAt(o, h, high) : behind;
            spent += h <= now ? more : 0;
            total += more;
            up = up < 0 && total > budgets[o][0] ? h : up;
        }
        return new int[] {budgets[o][0], spent, up, up, total, total}[what];
    }
}
