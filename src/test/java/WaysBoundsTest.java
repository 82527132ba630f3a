/** Promises 13 and 14 at their bounds: the first and the last beat, ways that are no crossing, ways to go. */
public final class WaysBoundsTest {
    private static final int BAD = DanceStaffs.BAD, NONE = DanceStaffs.NONE;
    private static final int[] X = {0, 1, 1, 1, 0, -1, -1, -1}, Y = {1, 1, 0, -1, -1, -1, 0, 1};
    private static final String TEN = "..........";

    public static void main(String[] args) {
        meetsAtEachBeat();
        crossesAtEachBeat();
        crossesEveryWay();
        staysAreNoCrossings();
        theSameWay();
        asDanced();
        refusedTwos();
        fewestFromEverywhere();
        fewestByWeight();
        fewestOfTheStanding();
        theFirstRow();
        refusedWays();
        Checks.end();
    }

    private static void meetsAtEachBeat() {
        Checks.sentence("MEETING of two DANCERS: the first n (0 .. 10) behind which both are at one place");
        Checks.together("d0 0 0;d0 0 4;", 0, NONE);
        Checks.together("d6 6 0;d6 6 4;", 0, NONE);
        for (int beat = 0; beat <= 9; beat++) {
            String rests = TEN.substring(0, beat);
            Checks.together("d0 0 0" + rests + "j0;d0 1 4;", beat + 1, NONE);
            Checks.together("d0 0 0" + rests + "j0;d0 2 4" + rests + "j0;", beat + 1, NONE);
        }
        Checks.together("d0 0 0j0j4j0;d0 1 4;", 1, NONE);
        Checks.together("d0 0 0;d0 1 0;", NONE, NONE);
        // One shares x, one y, one has them the other way round: no meeting.
        Checks.together("d1 2 0;d2 1 0;", NONE, NONE);
        Checks.together("d1 2 0;d1 1 0;", NONE, NONE);
        Checks.together("d1 2 0;d2 2 0;", NONE, NONE);
    }

    private static void crossesAtEachBeat() {
        Checks.sentence("CROSSING: the first n (1 .. 10) in which each goes to where the other one was");
        for (int beat = 0; beat <= 9; beat++) {
            String rests = TEN.substring(0, beat);
            Checks.together("d0 0 0" + rests + "j0;d0 1 4" + rests + "j0;", NONE, beat + 1);
            Checks.together("d0 0 1" + rests + "j0;d1 0 7" + rests + "j0;", NONE, beat + 1);
        }
        Checks.together("d0 0 0j0j4j0;d0 1 4j0j4j0;", NONE, 1);
        Checks.together("d0 0 0.j0;d0 1 4j4j0;", 2, NONE);
        Checks.together("d0 0 0j0j0;d0 3 4.j0;", 2, NONE);
    }

    /** Every step of both from places near to one another, against the document's two cases. */
    private static void crossesEveryWay() {
        Checks.sentence("or both ways (not the same one), corner to corner, cross in the middle between places");
        for (int way = 0; way < 8; way++) {
            for (int place = 0; place < 25; place++) {
                for (int otherWay = 0; otherWay < 8; otherWay++) {
                    oneStepEach(way, 1 + place % 5, 1 + place / 5, otherWay);
                }
            }
        }
    }

    private static void oneStepEach(int way, int x, int y, int otherWay) {
        int toX = 3 + X[way];
        int toY = 3 + Y[way];
        int otherToX = x + X[otherWay];
        int otherToY = y + Y[otherWay];
        boolean change = toX == x && toY == y && otherToX == 3 && otherToY == 3;
        boolean corners = way % 2 == 1 && otherWay % 2 == 1 && (way - otherWay) % 4 != 0
            && 3 + toX == x + otherToX && 3 + toY == y + otherToY;
        int meeting = x == 3 && y == 3 ? 0 : toX == otherToX && toY == otherToY ? 1 : NONE;
        String text = "d3 3 " + way + "j0;d" + x + " " + y + " " + otherWay + "j0;";
        Checks.together(text, meeting, change || corners ? 1 : NONE);
    }

    private static void staysAreNoCrossings() {
        Checks.sentence("in which each goes to where the other one was");
        for (int way = 0; way < 8; way++) {
            Checks.together("d3 3 " + way + "j0;d3 3 0;", 0, NONE);
            Checks.together("d3 3 " + way + "j0;d" + (3 + X[way]) + " " + (3 + Y[way]) + " 0;", 1, NONE);
            Checks.together("d3 3 " + way + "j0;d" + (3 - X[way]) + " " + (3 - Y[way]) + " 0;", NONE, NONE);
        }
        Checks.together("d3 3 0..;d3 3 0..;", 0, NONE);
        Checks.together("d3 3 0t1c;d3 3 0ct1;", 0, NONE);
    }

    private static void theSameWay() {
        Checks.sentence("(not the same one)");
        for (int way = 0; way < 8; way++) {
            Checks.together("d3 3 " + way + "j0j4;d3 3 " + way + "j0j4;", 0, NONE);
        }
    }

    private static void asDanced() {
        Checks.sentence("DANCED: SIGN by SIGN, till one can not be: that and all behind it are RESTS.");
        Checks.together("d0 0 2j4j0;d1 0 6.j0;", 2, NONE);
        Checks.together("d0 0 2l0l4;d2 0 6.j0;", 2, NONE);
        Checks.together("d0 0 2l0r0;d2 0 6.j0;", NONE, 2);
        DanceStaffs x = Checks.told("d0 0 2;d1 0 6;");
        Checks.due("apart", x.meet(0, 1, 0), NONE);
        x.adds(0, 18);
        Checks.due("as things are now", x.meet(0, 1, 0), 1);
        x.adds(1, 18);
        Checks.due("as things are now", x.meet(0, 1, 1), 1);
        x.undo();
        Checks.due("as things are now", x.meet(0, 1, 1), NONE);
    }

    private static void refusedTwos() {
        Checks.sentence("MEETING (what = 0), CROSSING (1); NONE. BAD (the same one, too).");
        DanceStaffs x = Checks.told("d0 0 0;d0 0 0;");
        for (int wrong : Call.row(-1, 2, 3, Integer.MIN_VALUE, Integer.MAX_VALUE)) {
            Checks.due("what " + wrong, x.meet(0, 1, wrong), BAD);
            Checks.due("d " + wrong, x.meet(wrong, 1, 0), BAD);
            Checks.due("other " + wrong, x.meet(0, wrong, 0), BAD);
            Checks.due("both " + wrong, x.meet(wrong, wrong, 0), BAD);
        }
        for (int d = 0; d <= 1; d++) {
            Checks.due("the same one", x.meet(d, d, 0), BAD);
            Checks.due("the same one", x.meet(d, d, 1), BAD);
        }
    }

    // ---- FEWEST

    private static void fewestFromEverywhere() {
        Checks.sentence("NONE never is told (there is always a way)");
        for (int from = 0; from < 49; from++) {
            for (int looks = 0; looks < 8; looks += 3) {
                for (int to = 0; to < 49; to++) {
                    DanceStaffs x = Checks.told("d" + from % 7 + " " + from / 7 + " " + looks + ";");
                    for (int toLooks = 0; toLooks < 8; toLooks++) {
                        leadsThere(x, from, looks, to, toLooks);
                    }
                }
            }
        }
    }

    /** The way has as many signs as told, and danced it leads there. */
    private static void leadsThere(DanceStaffs x, int from, int looks, int to, int toLooks) {
        int steps = Math.max(Math.abs(from % 7 - to % 7), Math.abs(from / 7 - to / 7));
        int want = steps + (looks == toLooks ? 0 : 1);
        String call = "fewest from " + from + ", " + looks + " to " + to + ", " + toLooks;
        Checks.due(call, x.fewest(0, 0, to % 7, to / 7, toLooks, -1), want);
        for (int k = 0; k < want; k++) {
            int sign = x.fewest(0, 0, to % 7, to / 7, toLooks, k);
            Checks.isTrue(call + ": sign " + k + " is " + sign, sign >= 1 && sign <= 32);
            x.adds(0, sign);
            Checks.due(call + " goes on behind " + (k + 1),
                x.fewest(0, k + 1, to % 7, to / 7, toLooks, -1), want - k - 1);
        }
        Checks.due(call + " no more", x.fewest(0, 0, to % 7, to / 7, toLooks, want), NONE);
        for (int k = 0; k < want; k++) {
            x.undo();
        }
    }

    private static void fewestByWeight() {
        Checks.sentence("LOOKING so (WEIGHT any)");
        for (String ahead : new String[] {"l0", "r0", "j0"}) {
            DanceStaffs x = Checks.told("d3 3 0" + ahead + ";");
            Checks.due(ahead + ", there already", x.fewest(0, 1, 3, 4, 0, -1), 0);
            Checks.due(ahead + ", there already", x.fewest(0, 1, 3, 4, 0, 0), NONE);
            Checks.due(ahead + ", one on", x.fewest(0, 1, 3, 5, 0, -1), 1);
            Checks.due(ahead + ", the first of them", x.fewest(0, 1, 3, 5, 0, 0), ahead.equals("l0") ? 10 : 2);
        }
    }

    private static void fewestOfTheStanding() {
        Checks.sentence("FEWEST from a STANDING of a DANCER behind n BEATS");
        DanceStaffs x = Checks.told("d6 6 0;d0 0 0l0r0l0r0l0r0j2j2j2j2;d0 0 0j0l0l0;");
        for (int n = 0; n <= 10; n++) {
            int want = n <= 6 ? n : 6;
            Checks.due("behind " + n, x.fewest(1, n, 0, 0, 0, -1), want);
        }
        Checks.due("a broken one stays", x.fewest(2, 10, 0, 2, 0, -1), 0);
        Checks.due("another dancer's", x.fewest(0, 10, 0, 0, 0, -1), 6);
    }

    private static void theFirstRow() {
        Checks.sentence("(of several such rows the first, SIGN by SIGN by numbers)");
        DanceStaffs x = Checks.told("d3 3 0;d3 3 0l4;d3 3 0r4;");
        row(x, 0, 3, 5, 0, 2, 10);
        row(x, 1, 3, 4, 0, 10, 2);
        row(x, 2, 3, 4, 0, 2, 10);
        row(x, 0, 3, 3, 1, 26);
        row(x, 0, 3, 3, 7, 32);
        // A step ahead has a smaller number than any turn, whatever direction it is told by.
        row(x, 0, 2, 3, 7, 8, 32);
        row(x, 0, 4, 5, 0, 2, 11);
        row(x, 0, 2, 5, 0, 2, 17);
    }

    private static void row(DanceStaffs x, int d, int toX, int toY, int looks, int... signs) {
        Checks.due("how many", x.fewest(d, 10, toX, toY, looks, -1), signs.length);
        for (int k = 0; k < signs.length; k++) {
            Checks.due("of " + d + " to " + toX + ", " + toY + " sign " + k,
                x.fewest(d, 10, toX, toY, looks, k), signs[k]);
        }
        Checks.due("not so many", x.fewest(d, 10, toX, toY, looks, signs.length), NONE);
    }

    private static void refusedWays() {
        Checks.sentence("FEWEST: how many (k = -1), the k-th SIGN (0 on; NONE: not so many). BAD.");
        DanceStaffs x = Checks.told("d0 0 0;");
        Checks.due("k = -1, none", x.fewest(0, 0, 0, 0, 0, -1), 0);
        Checks.due("k = 0, none", x.fewest(0, 0, 0, 0, 0, 0), NONE);
        Checks.due("k = -2", x.fewest(0, 0, 0, 0, 0, -2), BAD);
        Checks.due("k least", x.fewest(0, 0, 0, 0, 0, Integer.MIN_VALUE), BAD);
        Checks.due("most signs there can be", x.fewest(0, 0, 6, 6, 7, -1), 7);
        Checks.due("the last of them", x.fewest(0, 0, 6, 6, 7, 6), 32);
        for (int k : Call.row(7, 8, 31, 32, 64, 100, 1000000, Integer.MAX_VALUE - 1, Integer.MAX_VALUE)) {
            Checks.due("k = " + k, x.fewest(0, 0, 6, 6, 7, k), NONE);
        }
        Checks.sentence("places (x, y), 0 .. 6 each");
        for (int wrong : Call.row(-1, 7, 8, Integer.MIN_VALUE, Integer.MAX_VALUE)) {
            Checks.due("x = " + wrong, x.fewest(0, 0, wrong, 0, 0, -1), BAD);
            Checks.due("y = " + wrong, x.fewest(0, 0, 0, wrong, 0, -1), BAD);
        }
        Checks.sentence("DIRECTIONS 0 to 7");
        for (int wrong : Call.row(-1, 8, 9, Integer.MIN_VALUE, Integer.MAX_VALUE)) {
            Checks.due("looks = " + wrong, x.fewest(0, 0, 0, 0, wrong, -1), BAD);
        }
        Checks.sentence("STANDING behind n BEATS (0 .. 10)");
        for (int wrong : Call.row(-1, 11, 12, Integer.MIN_VALUE, Integer.MAX_VALUE)) {
            Checks.due("n = " + wrong, x.fewest(0, wrong, 0, 0, 0, -1), BAD);
        }
    }
}
