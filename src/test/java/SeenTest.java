/** Promises 15 to 18: sees, forget, unseen, look. */
public final class SeenTest {
    private static final int BAD = DanceStaffs.BAD, NONE = DanceStaffs.NONE;

    public static void main(String[] args) {
        seesAndForgets();
        refused();
        unseen();
        unseenAsThingsAreNow();
        looks();
        Checks.end();
    }

    private static void seesAndForgets() {
        DanceStaffs x = Checks.told("d0 0 0l0;");
        for (int n = 1; n <= 6; n++) {
            Checks.due("sees", x.sees(0, 0, 0), n);
            Checks.due("count(4)", x.count(4), n);
        }
        Checks.due("a seventh", x.sees(0, 0, 0), DanceStaffs.FULL);
        Checks.due("BAD ahead of FULL", x.sees(11, 0, 0), BAD);
        Checks.due("forget", x.forget(), 6);
        Checks.due("forget again", x.forget(), 0);
        Checks.due("count(4)", x.count(4), 0);
        Checks.due("sees anew", x.sees(10, 6, 6), 1);
    }

    private static void refused() {
        DanceStaffs x = Checks.told("d0 0 0l0;");
        Checks.due("n = -1", x.sees(-1, 0, 0), BAD);
        Checks.due("n = 11", x.sees(11, 0, 0), BAD);
        Checks.due("x = -1", x.sees(0, -1, 0), BAD);
        Checks.due("x = 7", x.sees(0, 7, 0), BAD);
        Checks.due("y = -1", x.sees(0, 0, -1), BAD);
        Checks.due("y = 7", x.sees(0, 0, 7), BAD);
        Checks.due("nothing was seen", x.count(4), 0);
        Checks.due("without dancers", new DanceStaffs().sees(0, 0, 0), BAD);
    }

    private static void unseen() {
        DanceStaffs x = Checks.told("d0 0 0j0j2j0.;d1 1 1j0;");
        Checks.due("all can be, the rest too", x.unseen(), 15);
        x.sees(1, 0, 1);
        Checks.due("not the first", x.unseen(), 14);
        x.sees(2, 0, 1);
        Checks.due("the second", x.unseen(), 2);
        x.sees(10, 0, 2);
        Checks.due("the second still", x.unseen(), 2);
        x.sees(10, 6, 6);
        Checks.due("none", x.unseen(), 0);
        x.forget();
        x.sees(0, 1, 0);
        Checks.due("it begins elsewhere", x.unseen(), 0);
        x.forget();
        x.sees(10, 1, 2);
        Checks.due("only the rest", x.unseen(), 8);
        // A left less makes the next left one that can be, and the right one too.
        DanceStaffs y = Checks.told("d0 0 0l0l0r0;");
        y.sees(10, 0, 2);
        Checks.due("by weight", y.unseen(), 3);
        y.sees(1, 0, 1);
        Checks.due("the second left", y.unseen(), 2);
        // Without the first one, what is behind it would lead off the floor.
        DanceStaffs z = Checks.told("d0 0 0j0j4j2;");
        z.sees(10, 0, 0);
        Checks.due("off the floor", z.unseen(), 5);
        Checks.due("a full staff", Checks.told("d0 0 0..........;").unseen(), 1023);
        Checks.due("an empty staff", Checks.told("d0 0 0;d0 0 0j0;").unseen(), 0);
    }

    private static void unseenAsThingsAreNow() {
        DanceStaffs x = Checks.told("d0 0 0j0j2;d0 0 0j2j0;");
        x.sees(1, 1, 0);
        Checks.due("none", x.unseen(), 0);
        x.canons(0, 1, 0);
        Checks.due("as it is now", x.unseen(), 2);
        x.undo();
        Checks.due("as it was", x.unseen(), 0);
        Checks.due("seen stays", x.count(4), 1);
        Checks.staff("nothing was changed", x, 0, 18, 20);
    }

    private static void looks() {
        lookOf("d3 3 0;", NONE);
        lookOf("d3 3 0j0;", NONE);
        lookOf("d3 3 0j0j0;", 1);
        lookOf("d3 3 0j0j2;", 1);
        lookOf("d3 3 0j0j2j4;", 2);
        lookOf("d3 3 0cj0j2;", 3);
        lookOf("d3 3 0...j0j2;", 5);
        lookOf("d3 3 0......j0...;", 7);
        lookOf("d3 3 0.........j0;", 10);
        // More than one can be, and no beat tells them apart: the first of equals.
        lookOf("d3 3 0..;", 1);
        lookOf("d3 3 0ct1;", 1);
        // What an earlier look() found must not go on counting.
        DanceStaffs again = Checks.told("d0 0 0j0j0j0j0;");
        Checks.due("a first look", again.look(), 1);
        Checks.type(again, "d3 3 0.........j0;");
        again.dance();
        Checks.due("a second look", again.look(), 10);
        Checks.type(again, "d3 3 0..j2.;");
        again.dance();
        Checks.due("a third look", again.look(), 3);
        DanceStaffs x = Checks.told("d3 3 0j0j2j4;");
        x.sees(1, 3, 4);
        Checks.due("two can be", x.unseen(), 6);
        Checks.due("behind 2 these are told apart", x.look(), 2);
        x.sees(2, 4, 4);
        Checks.due("one can be", x.unseen(), 4);
        Checks.due("none to look at", x.look(), NONE);
        x.sees(3, 0, 0);
        Checks.due("none can be", x.look(), NONE);
    }

    private static void lookOf(String text, int want) {
        Checks.due(text + " look()", Checks.told(text).look(), want);
    }
}
