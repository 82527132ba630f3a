/** "An object is used for at most 512 calls after it has been made": what is promised holds up to the 512th. */
public final class LifeTest {
    private static final int CALLS = 512;
    private static final int STATE = DanceStaffs.STATE, FULL = DanceStaffs.FULL;
    private static final String ITEM = "d3 3 0;";

    private final DanceStaffs x = new DanceStaffs();
    private int made = 0;

    public static void main(String[] args) {
        Checks.sentence("An object is used for at most 512 calls after it has been made");
        new LifeTest().types();
        new LifeTest().clears();
        new LifeTest().dances();
        new LifeTest().faults();
        new LifeTest().changesThenUndoes();
        new LifeTest().undoesEach();
        new LifeTest().refusals();
        new LifeTest().mirrors();
        new LifeTest().canons();
        new LifeTest().addsAndUndoes();
        new LifeTest().sees();
        new LifeTest().images();
        questions();
        Checks.end();
    }

    private boolean isLeft(int calls) {
        return made + calls <= CALLS;
    }

    private void due(String call, int got, int want) {
        made++;
        Checks.isTrue("more calls than are promised", made <= CALLS);
        Checks.due("call " + made + ", " + call, got, want);
    }

    private void tell(String text) {
        for (int i = 0; i < text.length(); i++) {
            due("type", x.type(text.charAt(i)), i + 1);
        }
        due("dance()", x.dance(), (int) text.chars().filter(letter -> letter == ';').count());
    }

    private void types() {
        while (isLeft(1)) {
            due("type", x.type(made % 256), made < 100 ? made + 1 : FULL);
        }
    }

    private void clears() {
        while (isLeft(4)) {
            due("type", x.type('d'), 1);
            due("type", x.type('d'), 2);
            due("clear()", x.clear(), 2);
            due("clear()", x.clear(), 0);
        }
    }

    /** The 64th text ends with the 512th call. */
    private void dances() {
        while (isLeft(8)) {
            tell(ITEM);
        }
        Checks.due("calls", made, CALLS);
    }

    private void faults() {
        tell(ITEM);
        due("type", x.type('x'), 1);
        while (isLeft(3)) {
            due("dance()", x.dance(), -10);
        }
        due("count", x.count(5), 1);
        due("stand", x.stand(0, 10, 0), 3);
    }

    /** The 512th call sees what the tenth undo() left. */
    private void changesThenUndoes() {
        tell("d3 3 0.;");
        int sign = 0;
        while (isLeft(12)) {
            int next = (sign + 1) % 33;
            due("changes", x.changes(0, 0, next), sign);
            sign = next;
        }
        for (int left = 9; left >= 0; left--) {
            due("undo()", x.undo(), left);
        }
        due("sign", x.sign(0, 0), (sign + 23) % 33);
        Checks.due("calls", made, CALLS);
    }

    private void undoesEach() {
        tell("d3 3 0.;");
        while (isLeft(6)) {
            due("changes", x.changes(0, 0, 7), 0);
            due("changes", x.changes(0, 0, 8), 7);
            due("undo()", x.undo(), 1);
            due("sign", x.sign(0, 0), 7);
            due("undo()", x.undo(), 0);
            due("undo()", x.undo(), STATE);
        }
    }

    private void refusals() {
        tell("d3 3 0..........;");
        while (isLeft(4)) {
            due("adds", x.adds(0, 0), FULL);
            due("changes", x.changes(0, 9, 0), STATE);
            due("back", x.back(1), STATE);
            due("count", x.count(6), 0);
        }
    }

    private void mirrors() {
        tell("d3 3 0l1;");
        boolean isMirrored = false;
        while (isLeft(3)) {
            due("mirrors", x.mirrors(0), 1);
            isMirrored = !isMirrored;
            due("sign", x.sign(0, 0), isMirrored ? 17 : 3);
            due("count", x.count(6), Math.min(10, (made - 9) / 3));
        }
    }

    private void canons() {
        tell("d3 3 0l1r2;d3 3 0;");
        while (isLeft(3)) {
            due("canons", x.canons(1, 0, made % 5), made % 5 + 2);
            due("staff", x.staff(0, 0), 2);
            due("meet", x.meet(0, 1, 0), 0);
        }
    }

    private void addsAndUndoes() {
        tell("d3 3 0;");
        while (isLeft(22)) {
            for (int i = 1; i <= 10; i++) {
                due("adds", x.adds(0, i), i);
            }
            due("adds", x.adds(0, 11), FULL);
            for (int left = 9; left >= 0; left--) {
                due("undo()", x.undo(), left);
            }
            due("staff", x.staff(0, 0), 0);
        }
    }

    private void sees() {
        tell("d3 3 0j0;");
        while (isLeft(9)) {
            for (int i = 1; i <= 6; i++) {
                due("sees", x.sees(1, 3, 3), i);
            }
            due("sees", x.sees(1, 3, 3), FULL);
            due("unseen()", x.unseen(), 1);
            due("forget()", x.forget(), 6);
        }
    }

    private void images() {
        tell("d3 3 0.;");
        while (isLeft(7)) {
            due("keep", x.keep(0), 1);
            due("changes", x.changes(0, 0, 5), 0);
            due("keep", x.keep(1), 1);
            due("back", x.back(0), 1);
            due("sign", x.sign(0, 0), 0);
            due("back", x.back(1), 1);
            due("changes", x.changes(0, 0, 0), 5);
        }
    }

    /** Each question answers the same till the last call, the 512th being each of them once. */
    private static void questions() {
        for (int last = 0; last < 10; last++) {
            LifeTest life = new LifeTest();
            life.tell("d3 3 0j0j2;d3 5 4j0;");
            life.due("type", life.x.type('d'), 1);
            for (int kind = (life.made + last) % 10; life.isLeft(1); kind = (kind + 1) % 10) {
                life.ask(kind);
            }
        }
    }

    private void ask(int kind) {
        switch (kind) {
            case 0: due("sign", x.sign(0, 1), 20); break;
            case 1: due("stand", x.stand(0, 10, 0), 4); break;
            case 2: due("staff", x.staff(0, 2), 3); break;
            case 3: due("meet", x.meet(0, 1, 0), 1); break;
            case 4: due("meet", x.meet(0, 1, 1), DanceStaffs.NONE); break;
            case 5: due("fewest", x.fewest(0, 2, 3, 3, 1, 1), 26); break;
            case 6: due("unseen()", x.unseen(), 3); break;
            case 7: due("look()", x.look(), 1); break;
            case 8: due("count", x.count(3), 1); break;
            default: due("dance()", x.dance(), -11); break;
        }
    }
}
