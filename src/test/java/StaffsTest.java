/** Promises 1 to 7: a new object, type, clear, dance, sign, stand, staff. */
public final class StaffsTest {
    private static final int BAD = DanceStaffs.BAD, NONE = DanceStaffs.NONE;

    public static void main(String[] args) {
        newObject();
        readTexts();
        readAnew();
        faultChangesNothing();
        signs();
        stepsByDirection();
        weights();
        brokenStaffs();
        turnsCarryOn();
        ofStaffs();
        Checks.end();
    }

    private static void newObject() {
        DanceStaffs x = new DanceStaffs();
        for (int what = 0; what <= 6; what++) {
            Checks.due("new: count(" + what + ")", x.count(what), 0);
        }
        Checks.due("new: sign", x.sign(0, 0), BAD);
        Checks.due("new: stand", x.stand(0, 0, 0), BAD);
        Checks.due("new: staff", x.staff(0, 0), BAD);
        Checks.due("new: mirrors", x.mirrors(0), BAD);
        Checks.due("new: canons", x.canons(0, 1, 0), BAD);
        Checks.due("new: changes", x.changes(0, 0, 0), BAD);
        Checks.due("new: adds", x.adds(0, 0), BAD);
        Checks.due("new: undo", x.undo(), DanceStaffs.STATE);
        Checks.due("new: meet", x.meet(0, 1, 0), BAD);
        Checks.due("new: fewest", x.fewest(0, 0, 0, 0, 0, -1), BAD);
        Checks.due("new: sees", x.sees(0, 0, 0), BAD);
        Checks.due("new: unseen", x.unseen(), 0);
        Checks.due("new: look", x.look(), NONE);
        Checks.due("new: forget", x.forget(), 0);
        Checks.due("new: back", x.back(0), DanceStaffs.STATE);
        Checks.due("new: clear", x.clear(), 0);
    }

    private static void readTexts() {
        Checks.due("empty", Checks.danced(""), 0);
        Checks.due("blanks", Checks.danced("   "), 0);
        Checks.due("least item", Checks.danced("d0 0 0;"), 1);
        Checks.due("greatest numbers", Checks.danced("d6 6 7l7r7j7t7;"), 1);
        Checks.due("blanks all over", Checks.danced("  d  6  6  7  l  7  .  c  t 1  ;  "), 1);
        Checks.due("three", Checks.danced("d0 0 0;d1 1 1;d2 2 2;"), 3);
        Checks.due("ten signs", Checks.danced("d0 0 0..........;"), 1);
        DanceStaffs x = Checks.told("d1 2 3.cl0l7r0r7j0j7t1t7;d4 5 6;");
        Checks.staff("told", x, 0, 0, 1, 2, 9, 10, 17, 18, 25, 26, 32);
        Checks.staff("told", x, 1);
        Checks.standing(x, 0, 0, 1, 2, 3, 2);
        Checks.standing(x, 1, 0, 4, 5, 6, 2);
    }

    private static void readAnew() {
        DanceStaffs x = Checks.told("d0 0 0l0;d1 1 1;");
        x.adds(0, 18);
        x.sees(1, 0, 1);
        x.keep(0);
        x.keep(1);
        Checks.type(x, "d5 5 4r0c;");
        Checks.due("anew", x.dance(), 1);
        Checks.due("letters are gone", x.clear(), 0);
        Checks.due("nothing can be undone", x.undo(), DanceStaffs.STATE);
        Checks.due("nothing is seen", x.count(4), 0);
        Checks.due("image 0 is gone", x.back(0), DanceStaffs.STATE);
        Checks.due("image 1 is gone", x.back(1), DanceStaffs.STATE);
        Checks.due("one dancer", x.count(0), 1);
        Checks.due("the second one is gone", x.sign(1, 0), BAD);
        Checks.staff("anew", x, 0, 10, 1);
        x.keep(0);
        Checks.due("an empty text tells that there are none", x.dance(), 0);
        Checks.due("no dancers", x.count(0), 0);
        Checks.due("no signs", x.count(1), 0);
        Checks.due("no image", x.back(0), DanceStaffs.STATE);
        Checks.due("no unseen", x.unseen(), 0);
    }

    private static void faultChangesNothing() {
        DanceStaffs x = Checks.told("d0 0 0l0;d1 1 1;");
        x.adds(0, 18);
        x.sees(1, 0, 1);
        x.keep(1);
        Checks.type(x, "d5 5 5;d4 4 4..;x");
        Checks.due("fault", x.dance(), -26);
        Checks.due("fault again", x.dance(), -26);
        Checks.due("letters stay", x.count(5), 17);
        Checks.due("dancers stay", x.count(0), 2);
        Checks.staff("after a fault", x, 0, 2, 18);
        Checks.staff("after a fault", x, 1);
        Checks.standing(x, 0, 0, 0, 0, 0, 2);
        Checks.due("seen stays", x.count(4), 1);
        Checks.due("the image stays", x.back(1), 2);
        Checks.due("clear()", x.clear(), 17);
    }

    private static void signs() {
        DanceStaffs x = Checks.told("d0 0 0l0.;d1 1 1;");
        Checks.due("sign(0, 0)", x.sign(0, 0), 2);
        Checks.due("sign(0, 1)", x.sign(0, 1), 0);
        Checks.due("sign(0, 2)", x.sign(0, 2), NONE);
        Checks.due("sign(0, 9)", x.sign(0, 9), NONE);
        Checks.due("sign(0, 10)", x.sign(0, 10), BAD);
        Checks.due("sign(0, -1)", x.sign(0, -1), BAD);
        Checks.due("sign(1, 0)", x.sign(1, 0), NONE);
        Checks.due("sign(2, 0)", x.sign(2, 0), BAD);
        Checks.due("sign(-1, 0)", x.sign(-1, 0), BAD);
        Checks.due("stand(0, -1, 0)", x.stand(0, -1, 0), BAD);
        Checks.due("stand(0, 11, 0)", x.stand(0, 11, 0), BAD);
        Checks.due("stand(0, 0, -1)", x.stand(0, 0, -1), BAD);
        Checks.due("stand(0, 0, 4)", x.stand(0, 0, 4), BAD);
        Checks.due("stand(2, 0, 0)", x.stand(2, 0, 0), BAD);
        Checks.due("stand(-1, 0, 0)", x.stand(-1, 0, 0), BAD);
        Checks.due("staff(0, -1)", x.staff(0, -1), BAD);
        Checks.due("staff(0, 5)", x.staff(0, 5), BAD);
        Checks.due("staff(2, 0)", x.staff(2, 0), BAD);
        Checks.due("staff(-1, 0)", x.staff(-1, 0), BAD);
        int low = Integer.MIN_VALUE;
        int high = Integer.MAX_VALUE;
        Checks.due("sign at the ends of int", x.sign(low, high), BAD);
        Checks.due("stand at the ends of int", x.stand(0, high, low), BAD);
        Checks.due("staff at the ends of int", x.staff(high, low), BAD);
    }

    private static void stepsByDirection() {
        int[] dx = {0, 1, 1, 1, 0, -1, -1, -1};
        int[] dy = {1, 1, 0, -1, -1, -1, 0, 1};
        for (int looks = 0; looks < 8; looks++) {
            for (int by = 0; by < 8; by++) {
                int to = (looks + by) % 8;
                String begin = "d3 3 " + looks;
                Checks.standing(Checks.told(begin + "l" + by + ";"), 0, 1, 3 + dx[to], 3 + dy[to], looks, 0);
                Checks.standing(Checks.told(begin + "r" + by + ";"), 0, 1, 3 + dx[to], 3 + dy[to], looks, 1);
                Checks.standing(Checks.told(begin + "j" + by + ";"), 0, 1, 3 + dx[to], 3 + dy[to], looks, 2);
                if (by > 0) {
                    Checks.standing(Checks.told(begin + "t" + by + ";"), 0, 1, 3, 3, to, 2);
                }
            }
        }
    }

    private static void weights() {
        Checks.due("left, left", Checks.told("d3 3 0l0l0;").staff(0, 1), 1);
        Checks.due("right, right", Checks.told("d3 3 0r0r0;").staff(0, 1), 1);
        Checks.due("left, right", Checks.told("d3 3 0l0r0;").staff(0, 1), NONE);
        Checks.due("left, close, left", Checks.told("d3 3 0l0cl0;").staff(0, 1), NONE);
        Checks.due("left, leap, left", Checks.told("d3 3 0l0j0l0;").staff(0, 1), NONE);
        Checks.due("left, rest, left", Checks.told("d3 3 0l0.l0;").staff(0, 1), 2);
        Checks.due("left, turn, left", Checks.told("d3 3 0l0t4l0;").staff(0, 1), 2);
        DanceStaffs x = Checks.told("d3 3 0l0.t2r0cj4;");
        Checks.standing(x, 0, 1, 3, 4, 0, 0);
        Checks.standing(x, 0, 2, 3, 4, 0, 0);
        Checks.standing(x, 0, 3, 3, 4, 2, 0);
        Checks.standing(x, 0, 4, 4, 4, 2, 1);
        Checks.standing(x, 0, 5, 4, 4, 2, 2);
        Checks.standing(x, 0, 6, 3, 4, 2, 2);
        Checks.standing(x, 0, 10, 3, 4, 2, 2);
        Checks.due("shifts", x.staff(0, 3), 3);
    }

    private static void brokenStaffs() {
        String[] off = {"d0 3 6", "d6 3 2", "d3 0 4", "d3 6 0"};
        for (String begin : off) {
            for (String sign : new String[] {"l0", "r0", "j0"}) {
                DanceStaffs x = Checks.told(begin + "." + sign + "j4;");
                Checks.due(begin + sign, x.staff(0, 1), 1);
                Checks.due(begin + sign + " span", x.staff(0, 2), 1);
                Checks.due(begin + sign + " shifts", x.staff(0, 3), 0);
            }
        }
        DanceStaffs x = Checks.told("d0 5 0j0t2j0j4j4j0;");
        Checks.due("broken at 4", x.staff(0, 1), 4);
        Checks.standing(x, 0, 4, 0, 6, 2, 2);
        Checks.standing(x, 0, 5, 0, 6, 2, 2);
        Checks.standing(x, 0, 6, 0, 6, 2, 2);
        Checks.standing(x, 0, 10, 0, 6, 2, 2);
    }

    private static void turnsCarryOn() {
        DanceStaffs x = Checks.told("d3 3 7t7t1t2l7r7;");
        Checks.standing(x, 0, 1, 3, 3, 6, 2);
        Checks.standing(x, 0, 2, 3, 3, 7, 2);
        Checks.standing(x, 0, 3, 3, 3, 1, 2);
        Checks.standing(x, 0, 4, 3, 4, 1, 0);
        Checks.standing(x, 0, 5, 3, 5, 1, 1);
    }

    private static void ofStaffs() {
        ofStaff("d3 3 0;", 0, NONE, 1, 0, NONE);
        ofStaff("d3 3 0......;", 6, NONE, 1, 0, NONE);
        ofStaff("d3 3 0j0j4;", 2, NONE, 2, 0, 2);
        ofStaff("d3 3 0..j0.j4.j0j4;", 8, NONE, 2, 0, 5);
        ofStaff("d3 3 0j0j2j4j6;", 4, NONE, 4, 0, 4);
        ofStaff("d3 3 0l0r2l4r6c;", 5, NONE, 4, 5, 4);
        ofStaff("d0 0 0j0j0j0j0j0j0j2j2j2j2;", 10, NONE, 11, 0, NONE);
        ofStaff("d0 0 0j0j0j0j2j2j4j4j4j6j6;", 10, NONE, 10, 0, 10);
        ofStaff("d3 3 2j0j4;", 2, NONE, 2, 0, 2);
        ofStaff("d3 3 1j0.j4;", 3, NONE, 2, 0, 3);
        ofStaff("d3 3 0l0r4l0r4l0r4l0r4l0r4;", 10, NONE, 2, 10, 2);
        ofStaff("d0 0 0l0r0r0;", 3, 2, 3, 2, NONE);
        ofStaff("d0 0 0j4;", 1, 0, 1, 0, NONE);
    }

    private static void ofStaff(String text, int... want) {
        DanceStaffs x = Checks.told(text);
        for (int what = 0; what < 5; what++) {
            Checks.due(text + " staff(0, " + what + ")", x.staff(0, what), want[what]);
        }
    }
}
