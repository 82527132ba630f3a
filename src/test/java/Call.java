import java.util.Arrays;
import java.util.List;

/** A call with numbers, the least and the most that each of them may be (with three dancers), and good ones. */
record Call(String name, Asked asked, int[] good, int[] least, int[] most) {
    interface Asked {
        int answer(DanceStaffs x, int[] a);
    }

    /** Every call that takes numbers; changes() in the way that beat names a sign of a staff of ten. */
    static List<Call> all() {
        return List.of(
            new Call("type", (x, a) -> x.type(a[0]), row('d'), row(0), row(255)),
            new Call("sign", (x, a) -> x.sign(a[0], a[1]), row(1, 0), row(0, 0), row(2, 9)),
            new Call("stand", (x, a) -> x.stand(a[0], a[1], a[2]), row(1, 1, 1), row(0, 0, 0), row(2, 10, 3)),
            new Call("staff", (x, a) -> x.staff(a[0], a[1]), row(1, 2), row(0, 0), row(2, 4)),
            new Call("mirrors", (x, a) -> x.mirrors(a[0]), row(0), row(0), row(2)),
            new Call("canons", (x, a) -> x.canons(a[0], a[1], a[2]), row(1, 0, 2), row(0, 0, 0), row(2, 2, 4)),
            new Call("changes", (x, a) -> x.changes(a[0], a[1], a[2]), row(1, 4, 30), row(0, 0, 0),
                row(2, 9, 32)),
            new Call("adds", (x, a) -> x.adds(a[0], a[1]), row(0, 18), row(0, 0), row(2, 32)),
            new Call("meet", (x, a) -> x.meet(a[0], a[1], a[2]), row(1, 0, 0), row(0, 0, 0), row(2, 2, 1)),
            new Call("fewest", (x, a) -> x.fewest(a[0], a[1], a[2], a[3], a[4], a[5]), row(1, 3, 3, 3, 3, 0),
                row(0, 0, 0, 0, 0, -1), row(2, 10, 6, 6, 7, Integer.MAX_VALUE)),
            new Call("sees", (x, a) -> x.sees(a[0], a[1], a[2]), row(3, 3, 3), row(0, 0, 0), row(10, 6, 6)),
            new Call("keep", (x, a) -> x.keep(a[0]), row(1), row(0), row(1)),
            new Call("back", (x, a) -> x.back(a[0]), row(1), row(0), row(1)),
            new Call("count", (x, a) -> x.count(a[0]), row(3), row(0), row(6)));
    }

    static int[] row(int... numbers) {
        return numbers;
    }

    int on(DanceStaffs x, int[] numbers) {
        return asked.answer(x, numbers);
    }

    boolean isNamed(String... names) {
        return Arrays.asList(names).contains(name);
    }

    String told(int[] numbers) {
        return name + Arrays.toString(numbers);
    }

    int[] with(int place, int number) {
        int[] numbers = good.clone();
        numbers[place] = number;
        return numbers;
    }

    /** Just beside what the number may be, and the ends of int. */
    int[] wrong(int place) {
        if (most[place] == Integer.MAX_VALUE) {
            return row(least[place] - 1, Integer.MIN_VALUE);
        }
        return row(least[place] - 1, most[place] + 1, Integer.MIN_VALUE, Integer.MAX_VALUE);
    }
}
