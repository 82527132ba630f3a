/** Promises 8 to 12: mirrors, canons, changes, adds, undo. */
public final class DoneTest {
    private static final int BAD = DanceStaffs.BAD, STATE = DanceStaffs.STATE;

    public static void main(String[] args) {
        mirrorsEachSign();
        mirrorsStaffs();
        canons();
        changes();
        adds();
        undoes();
        undoesTenAtMost();
        refusedAreNotUndone();
        Checks.end();
    }

    private static int mirrored(int sign) {
        if (sign <= 1) {
            return sign;
        }
        int[] left = {10, 17, 16, 15, 14, 13, 12, 11};
        int[] right = {2, 9, 8, 7, 6, 5, 4, 3};
        int[] leap = {18, 25, 24, 23, 22, 21, 20, 19};
        int[] turn = {32, 31, 30, 29, 28, 27, 26};
        return sign < 10 ? left[sign - 2] : sign < 18 ? right[sign - 10] : sign < 26 ? leap[sign - 18]
            : turn[sign - 26];
    }

    private static void mirrorsEachSign() {
        for (int sign = 0; sign <= 32; sign++) {
            DanceStaffs x = Checks.told("d3 3 0;");
            x.adds(0, sign);
            Checks.due("mirrors", x.mirrors(0), 1);
            Checks.due("mirrored " + sign, x.sign(0, 0), mirrored(sign));
            x.mirrors(0);
            Checks.due("twice mirrored " + sign, x.sign(0, 0), sign);
        }
    }

    private static void mirrorsStaffs() {
        DanceStaffs x = Checks.told("d3 3 0l1r0cj3t2.;d3 3 0l1;d0 0 0;");
        Checks.due("mirrors(0)", x.mirrors(0), 6);
        Checks.staff("mirrored", x, 0, 17, 2, 1, 23, 31, 0);
        Checks.staff("not mirrored", x, 1, 3);
        Checks.due("an empty staff", x.mirrors(2), 0);
        Checks.due("both can be undone", x.count(6), 2);
        Checks.due("mirrors(3)", x.mirrors(3), BAD);
        Checks.due("mirrors(-1)", x.mirrors(-1), BAD);
    }

    private static void canons() {
        DanceStaffs x = Checks.told("d0 0 0l0r0c;d1 1 1j0j1j2j3j4j5j6j7;d2 2 2;");
        Checks.due("canons(2, 0, 0)", x.canons(2, 0, 0), 3);
        Checks.staff("no rests", x, 2, 2, 10, 1);
        Checks.due("canons(2, 0, 4)", x.canons(2, 0, 4), 7);
        Checks.staff("four rests", x, 2, 0, 0, 0, 0, 2, 10, 1);
        Checks.due("canons(0, 1, 2)", x.canons(0, 1, 2), 10);
        Checks.staff("just ten", x, 0, 0, 0, 18, 19, 20, 21, 22, 23, 24, 25);
        Checks.due("canons(0, 1, 3)", x.canons(0, 1, 3), 10);
        Checks.staff("the first ten", x, 0, 0, 0, 0, 18, 19, 20, 21, 22, 23, 24);
        Checks.due("canons(2, 0, 4)", x.canons(2, 0, 4), 10);
        Checks.staff("of a full one", x, 2, 0, 0, 0, 0, 0, 0, 0, 18, 19, 20);
        Checks.staff("the other one stays", x, 1, 18, 19, 20, 21, 22, 23, 24, 25);
        Checks.standing(x, 0, 0, 0, 0, 0, 2);
        Checks.due("itself", x.canons(1, 1, 0), BAD);
        Checks.due("no such d", x.canons(3, 1, 0), BAD);
        Checks.due("no such other", x.canons(1, 3, 0), BAD);
        Checks.due("below", x.canons(-1, 1, 0), BAD);
        Checks.due("other below", x.canons(1, -1, 0), BAD);
        Checks.due("n = 5", x.canons(1, 0, 5), BAD);
        Checks.due("n = -1", x.canons(1, 0, -1), BAD);
        DanceStaffs y = Checks.told("d0 0 0;d0 0 0l0;");
        Checks.due("of an empty one", y.canons(1, 0, 3), 3);
        Checks.staff("rests alone", y, 1, 0, 0, 0);
        Checks.due("of an empty one, no rests", Checks.told("d0 0 0;d0 0 0l0;").canons(1, 0, 0), 0);
    }

    private static void changes() {
        DanceStaffs x = Checks.told("d0 0 0l0r0c;d1 1 1;");
        Checks.due("changes(0, 1, 32)", x.changes(0, 1, 32), 10);
        Checks.staff("changed", x, 0, 2, 32, 1);
        Checks.due("changes(0, 1, 0)", x.changes(0, 1, 0), 32);
        Checks.due("it is that", x.changes(0, 1, 0), STATE);
        Checks.due("no such sign", x.changes(0, 3, 0), BAD);
        Checks.due("beat 10", x.changes(0, 10, 0), BAD);
        Checks.due("beat -1", x.changes(0, -1, 0), BAD);
        Checks.due("sign 33", x.changes(0, 0, 33), BAD);
        Checks.due("sign -1", x.changes(0, 0, -1), BAD);
        Checks.due("sign NONE", x.changes(0, 5, DanceStaffs.NONE), BAD);
        Checks.due("an empty staff", x.changes(1, 0, 0), BAD);
        Checks.due("no dancer", x.changes(2, 0, 0), BAD);
        Checks.due("dancer -1", x.changes(-1, 0, 0), BAD);
        Checks.staff("then", x, 0, 2, 0, 1);
    }

    private static void adds() {
        DanceStaffs x = Checks.told("d0 0 0l0;d1 1 1;");
        for (int n = 2; n <= 10; n++) {
            Checks.due("adds", x.adds(0, 20 + n), n);
        }
        Checks.staff("ten", x, 0, 2, 22, 23, 24, 25, 26, 27, 28, 29, 30);
        Checks.due("an eleventh", x.adds(0, 0), DanceStaffs.FULL);
        Checks.due("BAD ahead of FULL", x.adds(0, 33), BAD);
        Checks.due("sign -1", x.adds(1, -1), BAD);
        Checks.due("no dancer", x.adds(2, 0), BAD);
        Checks.due("dancer -1", x.adds(-1, 0), BAD);
        Checks.due("adds(1, 0)", x.adds(1, 0), 1);
        Checks.staff("the other one", x, 1, 0);
    }

    private static void undoes() {
        DanceStaffs x = Checks.told("d0 0 0l1r0;d1 1 1j0;");
        Checks.due("none", x.undo(), STATE);
        x.mirrors(0);
        x.canons(1, 0, 2);
        x.changes(1, 0, 5);
        x.adds(0, 9);
        Checks.due("count(6)", x.count(6), 4);
        Checks.staff("done", x, 0, 17, 2, 9);
        Checks.staff("done", x, 1, 5, 0, 17, 2);
        Checks.due("undo adds", x.undo(), 3);
        Checks.staff("adds undone", x, 0, 17, 2);
        Checks.due("undo changes", x.undo(), 2);
        Checks.staff("changes undone", x, 1, 0, 0, 17, 2);
        Checks.due("undo canons", x.undo(), 1);
        Checks.staff("canons undone", x, 1, 18);
        Checks.due("undo mirrors", x.undo(), 0);
        Checks.staff("mirrors undone", x, 0, 3, 10);
        Checks.due("no more", x.undo(), STATE);
        Checks.due("count(6)", x.count(6), 0);
    }

    private static void undoesTenAtMost() {
        DanceStaffs x = Checks.told("d0 0 0.;");
        for (int sign = 1; sign <= 23; sign++) {
            x.changes(0, 0, sign);
            Checks.due("count(6) behind " + sign, x.count(6), Math.min(sign, 10));
        }
        for (int sign = 22; sign >= 16; sign--) {
            Checks.due("undo", x.undo(), sign - 13);
            Checks.staff("undone", x, 0, sign);
        }
        x.changes(0, 0, 30);
        Checks.due("four more", x.count(6), 4);
        Checks.due("undo", x.undo(), 3);
        for (int sign = 15; sign >= 13; sign--) {
            Checks.due("undo", x.undo(), sign - 13);
            Checks.staff("undone", x, 0, sign);
        }
        Checks.due("older ones are lost", x.undo(), STATE);
        Checks.staff("as it was then", x, 0, 13);
    }

    private static void refusedAreNotUndone() {
        DanceStaffs x = Checks.told("d0 0 0..........;d1 1 1;");
        x.adds(0, 1);
        x.adds(0, 40);
        x.changes(0, 0, 0);
        x.changes(0, 10, 0);
        x.canons(0, 0, 0);
        x.mirrors(2);
        Checks.due("nothing was done", x.count(6), 0);
        Checks.due("undo", x.undo(), STATE);
    }
}
