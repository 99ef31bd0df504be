import java.util.Random;

/** Runs of 512 calls (no object is asked more), drawn from fixed seeds, on a BillWatch and on a PlainWatch. */
public final class RandomRunsTest {
    private static final int RUNS = 120;
    private static final int LAST_CRIES = 20;
    private static final int CALLS = 512 - 5 * LAST_CRIES;

    private final Random draw;
    private final BillWatch x = new BillWatch();
    private final PlainWatch plain = new PlainWatch();
    private final Due due;
    private final int style;

    private RandomRunsTest(int seed, Due due) {
        this.draw = new Random(seed);
        this.due = due;
        this.style = seed % 4;
    }

    public static void main(String[] args) {
        Due due = new Due();
        for (int seed = 0; seed < RUNS; seed++) {
            new RandomRunsTest(seed, due).run(seed);
        }
        due.end();
    }

    private void run(int seed) {
        for (int i = 0; i < CALLS; i++) {
            String at = "seed " + seed + ", call " + i;
            if (draw.nextInt(100) < 45) {
                tell(at);
            } else {
                ask(at);
            }
        }
        int end = Math.max(LAST_CRIES, plain.look(3) + 1);
        for (int i = end - LAST_CRIES; i < end; i++) {
            for (int what = 0; what < 5; what++) {
                due.is("seed " + seed + ", cry(" + i + ", " + what + ")", x.cry(i, what), plain.cry(i, what));
            }
        }
    }

    /** Mostly from least .. most, seldom just outside of it or far away. */
    private int number(int least, int most) {
        switch (draw.nextInt(60)) {
            case 0:
                return least - 1;
            case 1:
                return most + 1;
            case 2:
                return draw.nextInt();
            case 3:
                return most;
            default:
                return least + draw.nextInt(most - least + 1);
        }
    }

    private int step() {
        switch (style) {
            case 0:
                return draw.nextBoolean() ? 24 : number(1, 48);
            case 1:
                return number(1, 12);
            case 2:
                return 24;
            default:
                return draw.nextInt(4) == 0 ? number(24, 48) : number(1, 3);
        }
    }

    private void tell(String at) {
        switch (draw.nextInt(style == 2 ? 14 : 20)) {
            case 0: {
                int s = number(0, 5);
                int o = number(0, 3);
                due.is(at + " owner", x.owner(s, o) ? 1 : 0, plain.owner(s, o) ? 1 : 0);
                break;
            }
            case 1: {
                int s = number(0, 5);
                int[] r = {number(0, 9), number(0, 9), number(0, 9), draw.nextInt(3)};
                due.is(at + " share", x.share(s, r[0], r[1], r[2], r[3]) ? 1 : 0,
                        plain.share(s, r[0], r[1], r[2], r[3]) ? 1 : 0);
                break;
            }
            case 2:
            case 3: {
                int s = number(0, 5);
                int price = draw.nextBoolean() ? number(1, 30) : number(1, 999);
                due.is(at + " begin", x.begin(s, price), plain.begin(s, price));
                break;
            }
            case 4: {
                int m = number(0, 39);
                due.is(at + " stop", x.stop(m) ? 1 : 0, plain.stop(m) ? 1 : 0);
                break;
            }
            case 5: {
                int v = draw.nextInt(3) == 0 ? number(0, 9999) : number(0, 40);
                due.is(at + " floor", x.floor(v) ? 1 : 0, plain.floor(v) ? 1 : 0);
                break;
            }
            case 6: {
                int o = number(0, 3);
                int sum = draw.nextBoolean() ? number(0, 200000) : number(0, 100000000);
                int from = number(0, 1000);
                int to = draw.nextBoolean() ? number(0, 2000) : from + draw.nextInt(300);
                due.is(at + " budget", x.budget(o, sum, from, to) ? 1 : 0, plain.budget(o, sum, from, to) ? 1 : 0);
                break;
            }
            case 7:
            case 8:
            case 9:
            case 10: {
                int s = number(0, 5);
                int cost = draw.nextInt(3) == 0 ? number(0, 9999) : number(0, 60) + plain.look(0) / 8;
                due.is(at + " use", x.use(s, cost) ? 1 : 0, plain.use(s, cost) ? 1 : 0);
                break;
            }
            default: {
                int n = step();
                due.is(at + " hours", x.hours(n), plain.hours(n));
            }
        }
    }

    private void ask(String at) {
        int now = plain.look(0);
        switch (draw.nextInt(8)) {
            case 0: {
                int what = number(0, 5);
                due.is(at + " look", x.look(what), plain.look(what));
                break;
            }
            case 1: {
                int m = number(0, 39);
                int what = number(0, 3);
                due.is(at + " machine", x.machine(m, what), plain.machine(m, what));
                break;
            }
            case 2: {
                int s = number(0, 5);
                int hour = number(0, now);
                due.is(at + " cost", x.cost(s, hour), plain.cost(s, hour));
                break;
            }
            case 3: {
                int s = number(0, 5);
                int hour = number(0, now);
                int what = number(0, 2);
                due.is(at + " season", x.season(s, hour, what), plain.season(s, hour, what));
                break;
            }
            case 4: {
                int s = number(0, 5);
                due.is(at + " creeps", x.creeps(s), plain.creeps(s));
                break;
            }
            case 5: {
                int i = number(0, Math.max(1, plain.look(3)));
                int what = number(0, 4);
                due.is(at + " cry", x.cry(i, what), plain.cry(i, what));
                break;
            }
            case 6: {
                int o = number(0, 3);
                int from = number(0, now);
                int to = number(0, now + 1);
                due.is(at + " laid", x.laid(o, from, to), plain.laid(o, from, to));
                break;
            }
            default: {
                int o = number(0, 3);
                int what = number(0, 5);
                due.is(at + " budgeted", x.budgeted(o, what), plain.budgeted(o, what));
            }
        }
    }
}
