import java.util.ArrayList;
import java.util.List;
import java.util.function.Consumer;

/**
 * Two objects that are told the same, but that one is told besides what it must refuse: whatever is
 * asked later, they answer alike. They start with something of all that can be told.
 */
final class Twins {
    final BillWatch teased = new BillWatch();
    private final BillWatch left = new BillWatch();

    Twins() {
        both(Twins::tellSome);
    }

    void both(Consumer<BillWatch> calls) {
        calls.accept(teased);
        calls.accept(left);
    }

    /** Asked now, and once more when something has happened that leans on what was told before. */
    void alike(Due due) {
        compare(due, "now");
        both(Twins::goOn);
        compare(due, "later");
    }

    private void compare(Due due, String when) {
        List<String> names = new ArrayList<>();
        List<Integer> got = answers(teased, names);
        List<Integer> want = answers(left, new ArrayList<>());
        for (int i = 0; i < got.size(); i++) {
            due.is(when + ", after refused calls, " + names.get(i), got.get(i), want.get(i));
        }
    }

    private static void tellSome(BillWatch x) {
        x.share(0, 2, 1, 1, 0);
        x.owner(1, 3);
        x.share(4, 9, 0, 0, 9);
        x.owner(4, 2);
        x.begin(0, 17);
        x.begin(1, 25);
        x.begin(4, 40);
        Due.pass(x, 80);
        x.use(1, 300);
        x.hours(8);
        x.stop(1);
        x.begin(0, 31);
        x.floor(12);
        x.hours(2);
        x.use(0, 23);
        x.use(5, 7);
        x.budget(0, 2500, 10, 130);
        x.budget(2, 3000, 80, 95);
        x.budget(3, 90, 20, 60);
    }

    private static void goOn(BillWatch x) {
        x.use(0, 9);
        x.hours(1);
        x.use(5, 13);
        x.stop(0);
        x.hours(6);
    }

    private static List<Integer> answers(BillWatch x, List<String> names) {
        List<Integer> all = new ArrayList<>();
        int now = x.look(0);
        for (int what = 0; what < 6; what++) {
            note(all, names, "look " + what, x.look(what));
        }
        for (int i = 0; i < 4; i++) {
            for (int what = 0; what < 5; what++) {
                note(all, names, "machine " + i + " " + what, x.machine(i, what));
                note(all, names, "cry " + i + " " + what, x.cry(i, what));
            }
        }
        for (int s = 0; s < 6; s++) {
            note(all, names, "cost of " + s + " now", x.cost(s, now));
            note(all, names, "cost of " + s + " an hour ago", x.cost(s, now - 1));
            note(all, names, "creeps " + s, x.creeps(s));
            for (int what = 0; what < 3; what++) {
                note(all, names, "season of " + s + " " + what, x.season(s, now, what));
            }
        }
        for (int o = 0; o < 4; o++) {
            note(all, names, "laid to " + o, x.laid(o, 0, now + 1));
            for (int what = 0; what < 6; what++) {
                note(all, names, "budgeted " + o + " " + what, x.budgeted(o, what));
            }
        }
        return all;
    }

    private static void note(List<Integer> all, List<String> names, String name, int answer) {
        names.add(name);
        all.add(answer);
    }
}
