import java.util.function.Supplier;

/**
 * All that can be learned of an object: what it answers to every question, and what undo(), back(),
 * dance() and clear() find in it. Each of these is asked of an object of its own, made the same way,
 * so that none hides what another one would show.
 */
final class Probe {
    private static final int DANCERS = 3, UNDONE = 10, MOST_CALLS = 512, MOST_TO_MAKE = 200;

    private final StringBuilder learned = new StringBuilder();
    private int asked = 0;

    private Probe() {
    }

    /** made must use its object for at most 200 calls: the rest of the 512 are for the questions. */
    static String of(Supplier<DanceStaffs> made) {
        return new Probe().learn(made);
    }

    private String learn(Supplier<DanceStaffs> made) {
        begin("questions");
        questions(made.get());
        for (int times = 1; times <= UNDONE + 1; times++) {
            begin("undone " + times);
            undone(made.get(), times);
        }
        for (int image = 0; image < 2; image++) {
            begin("image " + image);
            broughtBack(made.get(), image);
        }
        begin("danced");
        danced(made.get());
        begin("cleared");
        cleared(made.get());
        begin("forgotten");
        forgotten(made.get());
        return learned.toString();
    }

    private void begin(String what) {
        learned.append('\n').append(what).append(':');
        asked = MOST_TO_MAKE;
    }

    private void answer(int answer) {
        asked++;
        if (asked > MOST_CALLS) {
            throw new IllegalStateException("a probe of more than 512 calls");
        }
        learned.append(' ').append(answer);
    }

    private void questions(DanceStaffs x) {
        for (int what = 0; what <= 6; what++) {
            answer(x.count(what));
        }
        answer(x.unseen());
        answer(x.look());
        staffs(x);
        for (int d = 0; d < DANCERS; d++) {
            for (int n = 0; n <= 10; n++) {
                for (int what = 0; what <= 3; what++) {
                    answer(x.stand(d, n, what));
                }
            }
            for (int what = 1; what <= 4; what++) {
                answer(x.staff(d, what));
            }
            for (int other = 0; other < DANCERS; other++) {
                answer(x.meet(d, other, 0));
                answer(x.meet(d, other, 1));
            }
            answer(x.fewest(d, 10, 6, 6, 7, -1));
            answer(x.fewest(d, 10, 6, 6, 7, 0));
        }
    }

    private void staffs(DanceStaffs x) {
        for (int d = 0; d < DANCERS; d++) {
            int length = x.staff(d, 0);
            answer(length);
            for (int beat = 0; beat < length; beat++) {
                answer(x.sign(d, beat));
            }
        }
    }

    private void undone(DanceStaffs x, int times) {
        for (int i = 0; i < times; i++) {
            answer(x.undo());
        }
        staffs(x);
    }

    private void broughtBack(DanceStaffs x, int image) {
        answer(x.back(image));
        staffs(x);
        answer(x.count(6));
    }

    private void danced(DanceStaffs x) {
        answer(x.dance());
        answer(x.count(5));
        questions(x);
    }

    private void cleared(DanceStaffs x) {
        answer(x.clear());
        answer(x.type('d'));
    }

    private void forgotten(DanceStaffs x) {
        answer(x.forget());
        answer(x.unseen());
    }
}
