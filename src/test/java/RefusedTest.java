import java.util.function.Supplier;
import java.util.function.ToIntFunction;

/**
 * "Refused, and nothing changes, the first of these: BAD, STATE, FULL": each call with each number just
 * beside what it may be, in several states; behind it a Probe must learn what it would have without it.
 */
public final class RefusedTest {
    private static final int BAD = DanceStaffs.BAD, STATE = DanceStaffs.STATE, FULL = DanceStaffs.FULL;

    public static void main(String[] args) {
        everyNumberBeside();
        everyNumberAtItsEnds();
        withFewerDancers();
        withoutDancers();
        noSuchThing();
        theSameOne();
        state();
        full();
        faults();
        questionsChangeNothing();
        Checks.end();
    }

    // ---- states

    /** Three dancers, all kinds of things done, an image, two places seen, a text not yet danced. */
    private static DanceStaffs amid() {
        DanceStaffs x = Checks.told("d2 2 0l0r0j2;d3 3 1l0r0l0r4l4r4l0r0l4r4;d1 1 2;");
        x.mirrors(0);
        x.keep(0);
        x.adds(0, 18);
        x.changes(1, 0, 3);
        x.canons(2, 0, 1);
        x.changes(2, 0, 27);
        x.sees(0, 2, 2);
        x.sees(1, 2, 3);
        Checks.type(x, "d5 5 5l0;");
        return x;
    }

    /** 100 letters, 6 places seen, ten signs of each dancer, 10 that can be undone, two images. */
    private static DanceStaffs filled() {
        String ten = "..........;";
        DanceStaffs x = Checks.told("d2 2 0" + ten + "d3 3 1" + ten + "d1 1 2" + ten);
        for (int beat = 0; beat < 10; beat++) {
            x.changes(0, beat, 26);
        }
        x.keep(0);
        x.keep(1);
        for (int i = 0; i < 6; i++) {
            x.sees(0, 2, 2);
        }
        Checks.type(x, "d5 5 5l0;" + " ".repeat(91));
        return x;
    }

    /** Nothing can be undone, no image: what STATE is for. */
    private static DanceStaffs fresh() {
        return Checks.told("d2 2 0..........;d3 3 1..........;d1 1 2..........;");
    }

    private static DanceStaffs two() {
        DanceStaffs x = Checks.told("d2 2 0l0r0j2;d3 3 1..........;");
        x.adds(0, 18);
        x.keep(1);
        return x;
    }

    private static DanceStaffs one() {
        DanceStaffs x = Checks.told("d2 2 0..........;");
        x.changes(0, 0, 18);
        x.keep(1);
        return x;
    }

    // ---- what must be

    private static void refused(String call, Supplier<DanceStaffs> made, ToIntFunction<DanceStaffs> asked, int want) {
        unchanged(call, made, x -> Checks.due(call, asked.applyAsInt(x), want));
    }

    private interface Step {
        void on(DanceStaffs x);
    }

    private static void unchanged(String call, Supplier<DanceStaffs> made, Step step) {
        String untouched = Probe.of(made);
        String touched = Probe.of(() -> {
            DanceStaffs x = made.get();
            step.on(x);
            return x;
        });
        Checks.isTrue(call + " changed something:" + untouched + "\nbecame" + touched, untouched.equals(touched));
    }

    private static void isBad(String when, Supplier<DanceStaffs> made, Call call, int[] numbers) {
        refused(when + ": " + call.told(numbers), made, x -> call.on(x, numbers), BAD);
    }

    private static boolean takesDancer(Call call) {
        return call.isNamed("sign", "stand", "staff", "mirrors", "canons", "changes", "adds", "meet", "fewest");
    }

    private static boolean takesTwo(Call call) {
        return call.isNamed("canons", "meet");
    }

    // ---- BAD

    private static void everyNumberBeside() {
        Checks.sentence("BAD (a number is not as told, or there is no such thing)");
        for (Call call : Call.all()) {
            for (int place = 0; place < call.good().length; place++) {
                for (int number : call.wrong(place)) {
                    int[] numbers = call.with(place, number);
                    isBad("amid", RefusedTest::amid, call, numbers);
                    isBad("nothing done", RefusedTest::fresh, call, numbers);
                }
            }
        }
        Checks.sentence("Refused, and nothing changes, the first of these: BAD .., STATE .., FULL");
        for (Call call : Call.all()) {
            for (int place = 0; place < call.good().length; place++) {
                isBad("filled", RefusedTest::filled, call, call.with(place, call.least()[place] - 1));
            }
        }
    }

    /** The ends of what a number may be are no longer BAD. */
    private static void everyNumberAtItsEnds() {
        Checks.sentence("BAD (a number is not as told)");
        for (Call call : Call.all()) {
            for (int place = 0; place < call.good().length; place++) {
                for (int number : Call.row(call.least()[place], call.most()[place])) {
                    int[] numbers = call.with(place, number);
                    boolean isItself = takesTwo(call) && numbers[0] == numbers[1];
                    Checks.isTrue(call.told(numbers) + " is " + (isItself ? "not " : "") + "refused",
                        call.on(fresh(), numbers) == BAD == isItself);
                }
            }
        }
    }

    private static void withFewerDancers() {
        Checks.sentence("BAD: no DANCER");
        for (Call call : Call.all()) {
            if (takesDancer(call)) {
                isBad("two", RefusedTest::two, call, call.with(0, 2));
                isBad("one", RefusedTest::one, call, call.with(0, 1));
            }
            if (takesTwo(call)) {
                isBad("two, the other one", RefusedTest::two, call, call.with(1, 2));
                isBad("one, the other one", RefusedTest::one, call, Call.row(0, 1, 0));
            }
        }
    }

    private static void withoutDancers() {
        Checks.sentence("No DANCERS.");
        for (Call call : Call.all()) {
            if (takesDancer(call) || call.isNamed("sees")) {
                isBad("new", DanceStaffs::new, call, call.good());
                isBad("new, least numbers", DanceStaffs::new, call, call.least());
                isBad("told that there are none", () -> {
                    DanceStaffs x = amid();
                    x.clear();
                    x.dance();
                    return x;
                }, call, call.good());
            }
        }
        Checks.sentence("BAD (without DANCERS, too)");
        refused("sees(0, 0, 0)", DanceStaffs::new, x -> x.sees(0, 0, 0), BAD);
    }

    private static void noSuchThing() {
        Checks.sentence("BAD (there is no such SIGN, too)");
        Supplier<DanceStaffs> made = () -> Checks.told("d2 2 0l0r0j2;d3 3 1..........;d1 1 2;");
        refused("changes(0, 3, 0)", made, x -> x.changes(0, 3, 0), BAD);
        refused("changes(0, 9, 32)", made, x -> x.changes(0, 9, 32), BAD);
        refused("changes(2, 0, 0)", made, x -> x.changes(2, 0, 0), BAD);
        refused("changes(0, 3, -9)", made, x -> x.changes(0, 3, DanceStaffs.NONE), BAD);
        Checks.due("the last one there is", made.get().changes(0, 2, 0), 20);
        Checks.due("the tenth there is", made.get().changes(1, 9, 32), 0);
    }

    private static void theSameOne() {
        Checks.sentence("BAD (d itself, too)");
        for (int i = 0; i < 3; i++) {
            int d = i;
            refused("canons of itself", RefusedTest::amid, x -> x.canons(d, d, 0), BAD);
            refused("canons of itself, 4 rests", RefusedTest::amid, x -> x.canons(d, d, 4), BAD);
        }
        Checks.sentence("BAD (the same one, too)");
        for (int i = 0; i < 3; i++) {
            int d = i;
            refused("meet itself", RefusedTest::amid, x -> x.meet(d, d, 0), BAD);
            refused("cross itself", RefusedTest::amid, x -> x.meet(d, d, 1), BAD);
        }
    }

    // ---- STATE, FULL

    private static void state() {
        Checks.sentence("STATE: it is that.");
        refused("changes(1, 9, 0)", RefusedTest::fresh, x -> x.changes(1, 9, 0), STATE);
        refused("changes(0, 0, 10)", RefusedTest::amid, x -> x.changes(0, 0, 10), STATE);
        refused("changes(0, 9, 26)", RefusedTest::filled, x -> x.changes(0, 9, 26), STATE);
        Checks.sentence("STATE: none.");
        refused("undo()", RefusedTest::fresh, DanceStaffs::undo, STATE);
        refused("undo()", DanceStaffs::new, DanceStaffs::undo, STATE);
        Checks.sentence("STATE: none was kept.");
        refused("back(1)", RefusedTest::amid, x -> x.back(1), STATE);
        refused("back(0)", RefusedTest::two, x -> x.back(0), STATE);
        refused("back(0)", DanceStaffs::new, x -> x.back(0), STATE);
    }

    private static void full() {
        Checks.sentence("FULL: 100.");
        refused("type('d')", RefusedTest::filled, x -> x.type('d'), FULL);
        refused("type(0)", RefusedTest::filled, x -> x.type(0), FULL);
        refused("type(255)", RefusedTest::filled, x -> x.type(255), FULL);
        Checks.sentence("FULL: 10.");
        for (int i = 0; i < 3; i++) {
            int d = i;
            refused("adds(" + d + ", 0)", RefusedTest::filled, x -> x.adds(d, 0), FULL);
            refused("adds(" + d + ", 32)", RefusedTest::fresh, x -> x.adds(d, 32), FULL);
        }
        Checks.sentence("FULL: 6.");
        refused("sees(0, 2, 2)", RefusedTest::filled, x -> x.sees(0, 2, 2), FULL);
        refused("sees(10, 6, 6)", RefusedTest::filled, x -> x.sees(10, 6, 6), FULL);
    }

    private static void faults() {
        Checks.sentence("-10 less FAULT: nothing changes.");
        refused("a fault at the beginning", () -> typed(";"), DanceStaffs::dance, -10);
        refused("a fault behind an item", () -> typed("d6 6 6cccc;d6 6 6;5"), DanceStaffs::dance, -28);
        refused("a fourth item", () -> typed("d6 6 6;d6 6 6;d6 6 6;d"), DanceStaffs::dance, -31);
        refused("it ends too early", () -> typed("d6 6 6cccc;d6 6 6;d5 5 5j0"), DanceStaffs::dance, -36);
    }

    private static DanceStaffs typed(String text) {
        DanceStaffs x = amid();
        x.clear();
        Checks.type(x, text);
        return x;
    }

    private static void questionsChangeNothing() {
        Checks.sentence("(As things are NOW; nothing is changed.)");
        for (Call call : Call.all()) {
            if (call.isNamed("sign", "stand", "staff", "meet", "fewest", "count")) {
                unchanged(call.told(call.good()), RefusedTest::amid, x -> call.on(x, call.good()));
                unchanged(call.told(call.good()), RefusedTest::filled, x -> call.on(x, call.good()));
            }
        }
        unchanged("unseen()", RefusedTest::amid, DanceStaffs::unseen);
        unchanged("look()", RefusedTest::amid, DanceStaffs::look);
    }
}
