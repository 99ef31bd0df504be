import java.lang.reflect.InvocationTargetException;
import java.lang.reflect.Method;
import java.lang.reflect.Modifier;
import java.util.ArrayList;
import java.util.Arrays;
import java.util.Comparator;
import java.util.List;
import java.util.Random;

/**
 * Rule 7 of LANGUAGE.md: no call throws, for any arguments in any state. It holds behind the 512th call
 * too, where the document leaves free what is answered; so answers are not looked at here.
 */
public final class AnyCallTest {
    private static final int[] EDGES = {Integer.MIN_VALUE, -100000000, -2000, -24, -1, 0, 1, 2, 3, 4, 5, 6, 7, 9, 10, 23,
        24, 39, 40, 47, 48, 49, 99, 100, 168, 999, 1000, 1999, 2000, 2001, 9999, 10000, 99999, 100000000, 100000001,
        Integer.MAX_VALUE - 1999, Integer.MAX_VALUE};
    private static final int CALLS = 6000;
    private static final int RUNS = 12;

    private final Due due;
    private final List<Method> face = new ArrayList<>();

    private AnyCallTest(Due due) {
        this.due = due;
        for (Method m : BillWatch.class.getDeclaredMethods()) {
            if (Modifier.isPublic(m.getModifiers())) {
                face.add(m);
            }
        }
        // the machine tells them in no order, but a run must be the same each time
        face.sort(Comparator.comparing(Method::getName));
    }

    public static void main(String[] args) throws IllegalAccessException {
        Due due = new Due();
        due.says("What it is", "An object is used for at most 512 calls after it has been made; "
                + "what later calls answer is free.");
        AnyCallTest test = new AnyCallTest(due);
        test.eachEdge("a new object", new BillWatch());
        test.eachEdge("a full one", test.full());
        for (int seed = 0; seed < RUNS; seed++) {
            test.longRun(seed);
        }
        due.end();
    }

    /** In the last hour, with as many machines and cries as there can be. */
    private BillWatch full() {
        BillWatch x = new BillWatch();
        for (int m = 0; m < 40; m++) {
            x.begin(m % 6, 999);
        }
        Due.pass(x, 72);
        for (int o = 0; o < 4; o++) {
            x.budget(o, 100000000, 0, 2000);
            x.share(o, 9, 9, 9, 9);
        }
        for (int round = 0; round < 17; round++) {
            for (int s = 0; s < 6; s++) {
                x.use(s, 9999);
            }
            // by then the cries are closed, and at that time of the day there was no jump yet
            x.hours(7);
        }
        Due.pass(x, 1999 - x.look(0));
        due.is("the last hour", x.look(0), 1999);
        due.is("machines that run", x.look(2), 40);
        due.is("cries", x.look(3), 100);
        return x;
    }

    /** Each edge at each place, with a 0 or a 1 at the others. */
    private void eachEdge(String state, BillWatch x) throws IllegalAccessException {
        for (Method m : face) {
            int places = m.getParameterCount();
            for (int place = 0; place < places; place++) {
                for (int edge : EDGES) {
                    for (int other = 0; other < 2; other++) {
                        Object[] args = new Object[places];
                        Arrays.fill(args, other);
                        args[place] = edge;
                        call(state, x, m, args);
                    }
                }
            }
        }
    }

    private void longRun(int seed) throws IllegalAccessException {
        Random draw = new Random(seed);
        BillWatch x = new BillWatch();
        for (int i = 0; i < CALLS; i++) {
            Method m = face.get(draw.nextInt(face.size()));
            Object[] args = new Object[m.getParameterCount()];
            for (int place = 0; place < args.length; place++) {
                args[place] = draw.nextInt(8) == 0 ? draw.nextInt() : EDGES[draw.nextInt(EDGES.length)];
            }
            call("seed " + seed + ", call " + i, x, m, args);
        }
    }

    private void call(String state, BillWatch x, Method m, Object[] args) throws IllegalAccessException {
        try {
            m.invoke(x, args);
            due.yes(state, true);
        } catch (InvocationTargetException e) {
            due.yes(state + ": " + m.getName() + Arrays.toString(args) + " threw " + e.getCause()
                    + ", which", false);
        }
    }
}
