/** Promises 13 and 14: meet, fewest. */
public final class WaysTest {
    private static final int BAD = DanceStaffs.BAD, NONE = DanceStaffs.NONE;

    public static void main(String[] args) {
        meetings();
        crossings();
        refusedMeetings();
        fewestOfEachStanding();
        ways();
        refusedWays();
        Checks.end();
    }

    private static void meetings() {
        Checks.together("d3 3 0;d3 3 4;", 0, NONE);
        Checks.together("d3 3 0;d3 4 4;", NONE, NONE);
        Checks.together("d0 0 0j0;d0 2 4j0;", 1, NONE);
        Checks.together("d0 0 0j0j0j0j0j0j0;d0 6 2..........;", 6, NONE);
        Checks.together("d0 0 2.........j0;d1 0 2;", 10, NONE);
        Checks.together("d0 0 2j0;d1 0 2j0;", NONE, NONE);
        Checks.together("d3 3 1j0;d3 3 1j0;", 0, NONE);
    }

    private static void crossings() {
        Checks.together("d0 0 2j0;d1 0 6j0;", NONE, 1);
        Checks.together("d0 0 2..j0;d1 0 6..j0;", NONE, 3);
        Checks.together("d0 0 2.........j0;d1 0 6.........j0;", NONE, 10);
        Checks.together("d0 0 1j0;d1 1 5j0;", NONE, 1);
        Checks.together("d0 0 1j0;d1 0 7j0;", NONE, 1);
        Checks.together("d0 0 1j0;d0 1 3j0;", NONE, 1);
        Checks.together("d0 0 1j0;d1 1 3j0;", NONE, NONE);
        Checks.together("d0 0 1j0;d1 0 0j0;", 1, NONE);
        Checks.together("d0 0 2j0;d0 1 2j0;", NONE, NONE);
        Checks.together("d3 0 2j0;d0 0 0j0;", NONE, NONE);
        Checks.together("d0 0 2j0.j4;d1 0 6j0.j4;", NONE, 1);
        Checks.together("d1 1 1j0;d1 1 1j0;", 0, NONE);
        Checks.together("d2 2 0;d2 2 0j0j4;", 0, NONE);
        Checks.together("d1 1 2j0j4;d2 1 6j0j4j0;", 3, 1);
        DanceStaffs x = Checks.told("d0 0 2j0;d1 0 6j0;d1 1 0;");
        Checks.due("one two of three", x.count(3), 1);
        x.adds(2, 22);
        Checks.due("0 and 2 meet then", x.meet(0, 2, 0), 1);
        Checks.due("two twos of three", x.count(3), 2);
    }

    private static void refusedMeetings() {
        DanceStaffs x = Checks.told("d0 0 0;d1 1 1;");
        Checks.due("the same one", x.meet(0, 0, 0), BAD);
        Checks.due("the same one, crossing", x.meet(1, 1, 1), BAD);
        Checks.due("no such d", x.meet(2, 0, 0), BAD);
        Checks.due("no such other", x.meet(0, 2, 0), BAD);
        Checks.due("d below", x.meet(-1, 0, 0), BAD);
        Checks.due("other below", x.meet(0, -1, 0), BAD);
        Checks.due("what 2", x.meet(0, 1, 2), BAD);
        Checks.due("what -1", x.meet(0, 1, -1), BAD);
    }

    private static void fewestOfEachStanding() {
        for (int place = 0; place < 49; place++) {
            int x = place % 7;
            int y = place / 7;
            DanceStaffs all = Checks.told("d2 4 3;");
            int steps = Math.max(Math.abs(x - 2), Math.abs(y - 4));
            for (int looks = 0; looks < 8; looks++) {
                int want = looks == 3 ? steps : steps + 1;
                Checks.due("fewest to " + x + ", " + y + ", " + looks, all.fewest(0, 0, x, y, looks, -1), want);
            }
        }
    }

    private static void ways() {
        way("d3 3 0;", 0, 3, 3, 0);
        way("d3 3 0;", 0, 3, 3, 7, 32);
        way("d3 3 0;", 0, 3, 4, 0, 2);
        way("d3 3 0l0;", 1, 3, 5, 0, 10);
        way("d3 3 0r0;", 1, 3, 5, 0, 2);
        // Left is the first sign, then right; a step ahead of the turn, for its number is smaller.
        way("d3 3 0;", 0, 3, 6, 4, 2, 10, 2, 29);
        way("d3 3 0l0;", 1, 3, 6, 4, 10, 2, 29);
        // By 7 first would be as short, but by 0 has the smaller number.
        way("d6 0 0;", 0, 5, 2, 0, 2, 17);
        way("d0 0 0;", 0, 6, 6, 0, 3, 11, 3, 11, 3, 11);
        way("d0 0 0;", 0, 6, 6, 7, 3, 11, 3, 11, 3, 11, 32);
        way("d0 3 2;", 0, 6, 3, 2, 2, 10, 2, 10, 2, 10);
        // The smaller number first, even where the way bends back for it.
        way("d6 6 2;", 0, 0, 3, 2, 5, 13, 5, 13, 6, 15);
        // From the standing behind n, and one that stays behind the last sign.
        way("d0 0 0l0r0;", 1, 0, 2, 0, 10);
        way("d0 0 0l0r0;", 10, 0, 3, 0, 2);
        way("d0 0 0l0l0;", 10, 0, 2, 0, 10);
    }

    private static void way(String text, int n, int x, int y, int looks, int... signs) {
        DanceStaffs told = Checks.told(text);
        String name = text + " behind " + n + " to " + x + ", " + y + ", " + looks;
        Checks.due(name, told.fewest(0, n, x, y, looks, -1), signs.length);
        for (int k = 0; k < signs.length; k++) {
            Checks.due(name + " sign " + k, told.fewest(0, n, x, y, looks, k), signs[k]);
        }
        Checks.due(name + " no more", told.fewest(0, n, x, y, looks, signs.length), NONE);
        Checks.due(name + " far on", told.fewest(0, n, x, y, looks, Integer.MAX_VALUE), NONE);
    }

    private static void refusedWays() {
        DanceStaffs x = Checks.told("d0 0 0;");
        Checks.due("dancer 1", x.fewest(1, 0, 0, 0, 0, -1), BAD);
        Checks.due("dancer -1", x.fewest(-1, 0, 0, 0, 0, -1), BAD);
        Checks.due("n = 11", x.fewest(0, 11, 0, 0, 0, -1), BAD);
        Checks.due("n = -1", x.fewest(0, -1, 0, 0, 0, -1), BAD);
        Checks.due("x = 7", x.fewest(0, 0, 7, 0, 0, -1), BAD);
        Checks.due("x = -1", x.fewest(0, 0, -1, 0, 0, -1), BAD);
        Checks.due("y = 7", x.fewest(0, 0, 0, 7, 0, -1), BAD);
        Checks.due("y = -1", x.fewest(0, 0, 0, -1, 0, -1), BAD);
        Checks.due("looks = 8", x.fewest(0, 0, 0, 0, 8, -1), BAD);
        Checks.due("looks = -1", x.fewest(0, 0, 0, 0, -1, -1), BAD);
        Checks.due("k = -2", x.fewest(0, 0, 0, 0, 0, -2), BAD);
        Checks.due("k least", x.fewest(0, 0, 0, 0, 0, Integer.MIN_VALUE), BAD);
        Checks.due("nothing changed", x.count(1), 0);
    }
}
