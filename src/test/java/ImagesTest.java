/** Promises 19 to 21: keep, back, count. */
public final class ImagesTest {
    private static final int BAD = DanceStaffs.BAD, STATE = DanceStaffs.STATE;

    public static void main(String[] args) {
        keepsAndBrings();
        keepsStaffsAlone();
        refused();
        withoutDancers();
        counts();
        Checks.end();
    }

    private static void keepsAndBrings() {
        DanceStaffs x = Checks.told("d0 0 0l0r0;d1 1 1;d2 2 2j0j1j2j3j4j5j6j7cc;");
        Checks.due("keep(0)", x.keep(0), 3);
        x.mirrors(0);
        x.canons(1, 2, 0);
        x.changes(2, 9, 0);
        Checks.due("keep(1)", x.keep(1), 3);
        x.adds(0, 5);
        Checks.due("back(0)", x.back(0), 3);
        Checks.staff("image 0", x, 0, 2, 10);
        Checks.staff("image 0", x, 1);
        Checks.staff("image 0", x, 2, 18, 19, 20, 21, 22, 23, 24, 25, 1, 1);
        Checks.due("back(1)", x.back(1), 3);
        Checks.staff("image 1", x, 0, 10, 2);
        Checks.staff("image 1", x, 1, 18, 19, 20, 21, 22, 23, 24, 25, 1, 1);
        Checks.staff("image 1", x, 2, 18, 19, 20, 21, 22, 23, 24, 25, 1, 0);
        x.adds(0, 7);
        x.keep(0);
        x.undo();
        Checks.due("back(0) again", x.back(0), 3);
        Checks.staff("kept over the old one", x, 0, 10, 2, 7);
        x.changes(0, 0, 30);
        x.back(0);
        Checks.staff("an image stays when brought back", x, 0, 10, 2, 7);
    }

    private static void keepsStaffsAlone() {
        DanceStaffs x = Checks.told("d0 0 0l0;d1 1 1;");
        x.adds(0, 10);
        x.keep(0);
        Checks.due("keep() leaves what may be undone", x.count(6), 1);
        x.sees(1, 0, 1);
        Checks.type(x, "abc");
        x.adds(1, 10);
        Checks.due("two may be undone", x.count(6), 2);
        x.back(0);
        Checks.due("nothing can be undone behind back()", x.count(6), 0);
        Checks.due("undo", x.undo(), STATE);
        Checks.due("seen stays", x.count(4), 1);
        Checks.due("the text stays", x.count(5), 3);
        x.adds(1, 11);
        Checks.due("undo goes on from there", x.undo(), 0);
        Checks.staff("undone", x, 1);
    }

    private static void refused() {
        DanceStaffs x = Checks.told("d0 0 0l0;");
        Checks.due("keep(2)", x.keep(2), BAD);
        Checks.due("keep(-1)", x.keep(-1), BAD);
        Checks.due("back(2)", x.back(2), BAD);
        Checks.due("back(-1)", x.back(-1), BAD);
        Checks.due("back(0)", x.back(0), STATE);
        x.keep(0);
        x.adds(0, 1);
        Checks.due("the other one was not kept", x.back(1), STATE);
        Checks.due("refused, nothing changes", x.count(6), 1);
        Checks.due("back(2) still", x.back(2), BAD);
    }

    private static void withoutDancers() {
        DanceStaffs x = new DanceStaffs();
        Checks.due("keep(1)", x.keep(1), 0);
        Checks.due("back(1)", x.back(1), 0);
        Checks.due("back(0)", x.back(0), STATE);
    }

    private static void counts() {
        DanceStaffs x = Checks.told("d0 0 0j4;d0 1 0l0l0;d0 0 2j0j0;");
        x.adds(2, 0);
        x.sees(0, 0, 0);
        x.sees(1, 0, 0);
        Checks.type(x, "d0 0");
        Checks.due("dancers", x.count(0), 3);
        Checks.due("signs", x.count(1), 6);
        Checks.due("broken", x.count(2), 2);
        Checks.due("twos", x.count(3), 1);
        Checks.due("seen", x.count(4), 2);
        Checks.due("letters", x.count(5), 4);
        Checks.due("may be undone", x.count(6), 1);
        Checks.due("count(7)", x.count(7), BAD);
        Checks.due("count(-1)", x.count(-1), BAD);
        Checks.due("none broken", Checks.told("d0 0 0;d0 1 0;").count(2), 0);
        Checks.due("three twos", Checks.told("d0 0 0;d0 0 0;d0 0 0;").count(3), 3);
    }
}
