/** Promises 1 and 19 to 21 at their bounds: a new object, images, counts. */
public final class ImagesBoundsTest {
    private static final int BAD = DanceStaffs.BAD, STATE = DanceStaffs.STATE, NONE = DanceStaffs.NONE;
    private static final String TEN = "..........";

    public static void main(String[] args) {
        newObject();
        twoImages();
        refusedImages();
        staffsOfAnyLength();
        nothingElseIsKept();
        nothingUndoneBehindBack();
        imagesAreGone();
        withoutDancers();
        countsOfNothing();
        countsOfAll();
        refusedCounts();
        countsTwos();
        Checks.end();
    }

    private static void newObject() {
        Checks.sentence("No DANCERS.");
        DanceStaffs x = new DanceStaffs();
        Checks.due("count(0)", x.count(0), 0);
        for (int d = -1; d <= 3; d++) {
            Checks.due("staff(" + d + ", 0)", x.staff(d, 0), BAD);
            Checks.due("sign(" + d + ", 0)", x.sign(d, 0), BAD);
            Checks.due("stand(" + d + ", 0, 0)", x.stand(d, 0, 0), BAD);
        }
        Checks.isTrue("one object's dancers are no other one's", Checks.told("d0 0 0;").count(0) == 1
            && new DanceStaffs().count(0) == 0);
    }

    // ---- IMAGES

    private static void twoImages() {
        Checks.sentence("IMAGES 0, 1 keep all STAFFS");
        DanceStaffs x = Checks.told("d3 3 0l0;d3 3 0" + TEN + ";d3 3 0;");
        Checks.due("keep(0)", x.keep(0), 3);
        x.changes(0, 0, 5);
        x.canons(1, 0, 0);
        x.adds(2, 9);
        Checks.due("keep(1)", x.keep(1), 3);
        x.mirrors(0);
        x.adds(1, 4);
        x.adds(2, 4);
        for (int times = 0; times < 2; times++) {
            Checks.due("back(0)", x.back(0), 3);
            Checks.staff("image 0", x, 0, 2);
            Checks.staff("image 0", x, 1, new int[10]);
            Checks.staff("image 0", x, 2);
            Checks.due("back(1)", x.back(1), 3);
            Checks.staff("image 1", x, 0, 5);
            Checks.staff("image 1", x, 1, 5);
            Checks.staff("image 1", x, 2, 9);
        }
        x.keep(0);
        x.adds(2, 9);
        x.back(0);
        Checks.staff("kept anew", x, 2, 9);
    }

    private static void refusedImages() {
        Checks.sentence("BAD; STATE: none was kept.");
        for (int image : Call.row(-1, 2, 3, Integer.MIN_VALUE, Integer.MAX_VALUE)) {
            DanceStaffs x = Checks.told("d3 3 0;");
            Checks.due("keep(" + image + ")", x.keep(image), BAD);
            Checks.due("back(" + image + ")", x.back(image), BAD);
            Checks.due("back(0)", x.back(0), STATE);
            Checks.due("back(1)", x.back(1), STATE);
            x.keep(0);
            Checks.due("back(1) with image 0", x.back(1), STATE);
            x.keep(1);
            Checks.due("back(" + image + ") with both", x.back(image), BAD);
        }
        DanceStaffs y = Checks.told("d3 3 0;");
        y.keep(1);
        Checks.due("back(0) with image 1", y.back(0), STATE);
    }

    private static void staffsOfAnyLength() {
        Checks.sentence("All of that becomes as an IMAGE has it: DANCERS.");
        for (int signs = 0; signs <= 10; signs++) {
            DanceStaffs x = Checks.told("d3 3 0" + "c".repeat(signs) + ";d3 3 0;d3 3 0" + TEN + ";");
            x.keep(0);
            x.canons(0, 1, 0);
            Checks.due("back(0)", x.back(0), 3);
            Checks.due("from none to " + signs, x.staff(0, 0), signs);
            x.canons(0, 2, 0);
            Checks.due("back(0)", x.back(0), 3);
            Checks.due("from ten to " + signs, x.staff(0, 0), signs);
            for (int beat = 0; beat < 10; beat++) {
                Checks.due("sign(0, " + beat + ")", x.sign(0, beat), beat < signs ? 1 : NONE);
            }
        }
    }

    private static void nothingElseIsKept() {
        Checks.sentence("IMAGES 0, 1 keep all STAFFS; nothing else");
        DanceStaffs x = Checks.told("d3 3 0j0;");
        x.sees(0, 3, 3);
        Checks.type(x, "d5");
        x.keep(0);
        x.sees(1, 3, 3);
        Checks.type(x, " 5");
        x.keep(1);
        x.back(0);
        Checks.due("seen is as it was now", x.count(4), 2);
        Checks.due("the text is as it was now", x.count(5), 4);
        x.forget();
        x.clear();
        x.back(0);
        Checks.due("seen does not come back", x.count(4), 0);
        Checks.due("the text does not come back", x.count(5), 0);
        Checks.due("the other image stays", x.back(1), 1);
    }

    private static void nothingUndoneBehindBack() {
        Checks.sentence("(nothing can be UNDONE behind back())");
        for (int done = 0; done <= 11; done++) {
            DanceStaffs x = Checks.told("d3 3 0.;");
            for (int i = 1; i <= done; i++) {
                x.changes(0, 0, i);
            }
            int known = Math.min(done, 10);
            x.keep(0);
            Checks.due("keep() leaves what may be undone", x.count(6), known);
            Checks.due("back(1) is refused", x.back(1), STATE);
            Checks.due("back(2) is refused", x.back(2), BAD);
            Checks.due("refused, it leaves what may be undone", x.count(6), known);
            x.back(0);
            Checks.due("behind back()", x.count(6), 0);
            Checks.due("behind back()", x.undo(), STATE);
            x.changes(0, 0, 30);
            Checks.due("a new one may be", x.count(6), 1);
            Checks.due("a new one may be", x.undo(), 0);
            Checks.due("as it was kept", x.sign(0, 0), done);
            Checks.due("but none older", x.undo(), STATE);
        }
    }

    private static void imagesAreGone() {
        Checks.sentence("IMAGES are gone.");
        DanceStaffs x = Checks.told("d3 3 0l0;");
        x.keep(0);
        x.keep(1);
        Checks.type(x, "d");
        Checks.due("a fault", x.dance(), -11);
        Checks.due("behind a fault they are there", x.back(0), 1);
        Checks.due("behind a fault they are there", x.back(1), 1);
        x.clear();
        Checks.type(x, "d3 3 0l0;");
        Checks.due("anew", x.dance(), 1);
        Checks.due("image 0 is gone", x.back(0), STATE);
        Checks.due("image 1 is gone", x.back(1), STATE);
        x.keep(1);
        Checks.due("image 0 is gone still", x.back(0), STATE);
        Checks.due("image 1 is a new one", x.back(1), 1);
    }

    private static void withoutDancers() {
        Checks.sentence("An IMAGE is kept: DANCERS.");
        for (int image = 0; image <= 1; image++) {
            DanceStaffs x = new DanceStaffs();
            Checks.due("back() ahead", x.back(image), STATE);
            Checks.due("keep()", x.keep(image), 0);
            Checks.due("back()", x.back(image), 0);
            Checks.due("the other one", x.back(1 - image), STATE);
        }
        for (int dancers = 1; dancers <= 3; dancers++) {
            DanceStaffs x = Checks.told("d3 3 0;".repeat(dancers));
            Checks.due("keep()", x.keep(0), dancers);
            Checks.due("back()", x.back(0), dancers);
        }
    }

    // ---- counts

    private static void counts(String when, DanceStaffs x, int... want) {
        for (int what = 0; what <= 6; what++) {
            Checks.due(when + ": count(" + what + ")", x.count(what), want[what]);
        }
    }

    private static void countsOfNothing() {
        Checks.sentence("0 DANCERS, 1 SIGNS of all, 2 how many are BROKEN, 3 how many twos MEET or CROSS, 4 SEEN, "
            + "5 letters of THE TEXT, 6 how many may be UNDONE");
        counts("new", new DanceStaffs(), 0, 0, 0, 0, 0, 0, 0);
        counts("one dancer", Checks.told("d3 3 0;"), 1, 0, 0, 0, 0, 0, 0);
    }

    private static void countsOfAll() {
        DanceStaffs x = Checks.told("d0 0 0j4.........;d0 0 4j0.........;d0 0 5j0.........;");
        for (int i = 0; i < 12; i++) {
            x.changes(i % 3, 9, 1 + i);
            x.sees(0, 0, 0);
        }
        for (int i = 0; i < 120; i++) {
            x.type(255);
        }
        counts("the most of each", x, 3, 30, 3, 3, 6, 100, 10);
        x.changes(1, 0, 0);
        x.changes(1, 9, 0);
        counts("one less broken", x, 3, 30, 2, 3, 6, 100, 10);
        x.undo();
        x.undo();
        counts("undone", x, 3, 30, 3, 3, 6, 100, 8);
    }

    private static void refusedCounts() {
        Checks.sentence("6 how many may be UNDONE. BAD.");
        for (int what : Call.row(-1, 7, 8, Integer.MIN_VALUE, Integer.MAX_VALUE)) {
            Checks.due("count(" + what + ")", new DanceStaffs().count(what), BAD);
            Checks.due("count(" + what + ")", Checks.told("d3 3 0;d3 3 0;").count(what), BAD);
        }
    }

    private static void countsTwos() {
        Checks.sentence("3 how many twos MEET or CROSS");
        Checks.due("one dancer", Checks.told("d3 3 0;").count(3), 0);
        Checks.due("two apart", Checks.told("d3 3 0;d3 4 0;").count(3), 0);
        Checks.due("two that meet", Checks.told("d3 3 0;d3 3 0;").count(3), 1);
        Checks.due("two that cross", Checks.told("d3 3 0j0;d3 4 4j0;").count(3), 1);
        Checks.due("two that do both", Checks.told("d3 3 0j0j4;d3 4 4j0;").count(3), 1);
        Checks.due("0 and 1", Checks.told("d3 3 0;d3 3 0;d0 0 0;").count(3), 1);
        Checks.due("0 and 2", Checks.told("d3 3 0;d0 0 0;d3 3 0;").count(3), 1);
        Checks.due("1 and 2", Checks.told("d0 0 0;d3 3 0;d3 3 0;").count(3), 1);
        Checks.due("1 meets 2, 0 comes too late", Checks.told("d0 0 0.j0;d0 1 0j2;d1 1 0;").count(3), 1);
        Checks.due("1 meets both", Checks.told("d0 0 0;d0 0 0j2;d1 0 0;").count(3), 2);
        Checks.due("0 meets both, 1 crosses 2", Checks.told("d0 0 0;d0 0 0j2;d1 0 6j0;").count(3), 3);
        Checks.due("behind the tenth beat", Checks.told("d0 0 0.........j0;d0 1 0;").count(3), 1);
    }
}
