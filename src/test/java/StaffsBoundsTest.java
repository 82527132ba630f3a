/** Promises 5 to 7 at their bounds: the floor's edges, directions, weight, what can not be, the last beat. */
public final class StaffsBoundsTest {
    private static final int BAD = DanceStaffs.BAD, NONE = DanceStaffs.NONE;
    private static final int[] X = {0, 1, 1, 1, 0, -1, -1, -1}, Y = {1, 1, 0, -1, -1, -1, 0, 1};
    private static final int LEFT = 0, RIGHT = 1, BOTH = 2;
    private static final String TEN = "..........";

    public static void main(String[] args) {
        begins();
        numbersOfSigns();
        signsOfAStaff();
        everySignFromEveryPlace();
        turnsByEight();
        restsAndCloses();
        weightOnOneLeg();
        danced();
        brokenBeats();
        standsBehindItsLastSign();
        standingsTold();
        spans();
        shifts();
        homes();
        Checks.end();
    }

    private static String begin(int x, int y, int looks) {
        return "d" + x + " " + y + " " + looks;
    }

    private static String name(int sign) {
        if (sign < 2) {
            return sign == 0 ? "." : "c";
        }
        return sign > 25 ? "t" + (sign - 25) : "lrj".charAt((sign - 2) / 8) + "" + (sign - 2) % 8;
    }

    private static boolean isOnFloor(int x, int y) {
        return x >= 0 && x <= 6 && y >= 0 && y <= 6;
    }

    // ---- where it begins, its signs

    private static void begins() {
        Checks.sentence("each begins at a place, LOOKS in a DIRECTION, with WEIGHT on both legs");
        for (int x = 0; x <= 6; x++) {
            for (int y = 0; y <= 6; y++) {
                for (int looks = 0; looks <= 7; looks++) {
                    Checks.standing(Checks.told("d0 0 0;d6 6 7;" + begin(x, y, looks) + ";"), 2, 0, x, y, looks, BOTH);
                }
            }
        }
    }

    private static void numbersOfSigns() {
        Checks.sentence("0 REST, 1 CLOSE, 2 .. 9 LEFT by 0 .. 7, 10 .. 17 RIGHT by 0 .. 7, 18 .. 25 LEAP by 0 .. 7, "
            + "26 .. 32 TURN by 1 .. 7");
        for (int sign = 0; sign <= 32; sign++) {
            Checks.staff(name(sign), Checks.told("d3 3 0" + name(sign) + ";"), 0, sign);
        }
        Checks.staff("the ends of each kind", Checks.told("d3 3 0.cl0l7r0r7j0j7t1t7;"), 0,
            0, 1, 2, 9, 10, 17, 18, 25, 26, 32);
    }

    private static void signsOfAStaff() {
        Checks.sentence("A SIGN of a STAFF (0 to 32); NONE: it has not so many. BAD: no DANCER, beat not 0 .. 9.");
        for (int signs = 0; signs <= 10; signs++) {
            DanceStaffs x = Checks.told("d3 3 0" + "c".repeat(signs) + ";d0 0 0" + TEN + ";");
            for (int beat = 0; beat <= 9; beat++) {
                Checks.due("sign(0, " + beat + ") of " + signs, x.sign(0, beat), beat < signs ? 1 : NONE);
                Checks.due("sign(1, " + beat + ")", x.sign(1, beat), 0);
            }
            for (int beat : Call.row(-1, 10, Integer.MIN_VALUE, Integer.MAX_VALUE)) {
                Checks.due("sign(0, " + beat + ") of " + signs, x.sign(0, beat), BAD);
                Checks.due("sign(1, " + beat + ")", x.sign(1, beat), BAD);
            }
            Checks.due("sign(2, 0)", x.sign(2, 0), BAD);
            Checks.due("sign(-1, 0)", x.sign(-1, 0), BAD);
        }
    }

    // ---- what a sign does

    private static void everySignFromEveryPlace() {
        Checks.sentence("None can be that leads off THE FLOOR.");
        for (int place = 0; place < 49; place++) {
            for (int looks = 0; looks <= 7; looks++) {
                for (int sign = 2; sign <= 25; sign++) {
                    goes(place % 7, place / 7, looks, sign);
                }
            }
        }
    }

    private static void goes(int x, int y, int looks, int sign) {
        int direction = (looks + (sign - 2) % 8) % 8;
        int toX = x + X[direction];
        int toY = y + Y[direction];
        DanceStaffs told = Checks.told(begin(x, y, looks) + name(sign) + ";");
        if (isOnFloor(toX, toY)) {
            Checks.due("broken", told.staff(0, 1), NONE);
            Checks.standing(told, 0, 1, toX, toY, looks, (sign - 2) / 8);
        } else {
            Checks.due("broken", told.staff(0, 1), 0);
            Checks.standing(told, 0, 1, x, y, looks, BOTH);
        }
    }

    private static void turnsByEight() {
        Checks.sentence("TURN by k: it LOOKS k on.");
        for (int looks = 0; looks <= 7; looks++) {
            for (int by = 1; by <= 7; by++) {
                DanceStaffs x = Checks.told(begin(0, 6, looks) + "t" + by + "t" + (8 - by) + ";");
                Checks.standing(x, 0, 1, 0, 6, (looks + by) % 8, BOTH);
                Checks.standing(x, 0, 2, 0, 6, looks, BOTH);
                Checks.due("it always can be", x.staff(0, 1), NONE);
            }
        }
        Checks.sentence("in the DIRECTION in which the DANCER LOOKS, and k more (by 8)");
        DanceStaffs x = Checks.told("d3 3 7t7t7t7j7j5;");
        Checks.standing(x, 0, 3, 3, 3, 4, BOTH);
        Checks.standing(x, 0, 4, 4, 2, 4, BOTH);
        Checks.standing(x, 0, 5, 5, 3, 4, BOTH);
    }

    private static void restsAndCloses() {
        Checks.sentence("REST: nothing changes. CLOSE: WEIGHT is on both legs.");
        String[] ahead = {"l0", "r0", "j0"};
        for (int weight = LEFT; weight <= BOTH; weight++) {
            DanceStaffs x = Checks.told("d3 3 2" + ahead[weight] + "..cc;");
            Checks.standing(x, 0, 1, 4, 3, 2, weight);
            Checks.standing(x, 0, 3, 4, 3, 2, weight);
            Checks.standing(x, 0, 4, 4, 3, 2, BOTH);
            Checks.standing(x, 0, 5, 4, 3, 2, BOTH);
            Checks.due("they always can be", x.staff(0, 1), NONE);
        }
    }

    private static void weightOnOneLeg() {
        Checks.sentence("it can not be, if WEIGHT is on the left leg alone. RIGHT likewise.");
        String[] ahead = {"l2", "r2", "j2", "l2.", "r2t3", "l2c", "r2c", ""};
        int[] weights = {LEFT, RIGHT, BOTH, LEFT, RIGHT, BOTH, BOTH, BOTH};
        for (int i = 0; i < ahead.length; i++) {
            for (int by = 0; by <= 7; by++) {
                canBe(ahead[i], "l" + by, weights[i] != LEFT);
                canBe(ahead[i], "r" + by, weights[i] != RIGHT);
                canBe(ahead[i], "j" + by, true);
            }
        }
    }

    private static void canBe(String ahead, String sign, boolean canBe) {
        DanceStaffs x = Checks.told("d3 3 0" + ahead + sign + ";");
        int last = x.staff(0, 0) - 1;
        Checks.due(ahead + sign + " broken", x.staff(0, 1), canBe ? NONE : last);
        if (canBe) {
            Checks.due(ahead + sign + " weight", x.stand(0, last + 1, 3), "lrj".indexOf(sign.charAt(0)));
        } else {
            for (int what = 0; what <= 3; what++) {
                Checks.due(ahead + sign + " stays", x.stand(0, last + 1, what), x.stand(0, last, what));
            }
        }
    }

    // ---- what can not be

    private static void danced() {
        Checks.sentence("DANCED: SIGN by SIGN, till one can not be: that and all behind it are RESTS.");
        DanceStaffs x = Checks.told("d0 3 0j0j6j2j4t1l0cr0;");
        for (int n = 1; n <= 10; n++) {
            Checks.standing(x, 0, n, 0, 4, 0, BOTH);
        }
        Checks.due("broken", x.staff(0, 1), 1);
        Checks.due("span", x.staff(0, 2), 2);
        Checks.due("shifts", x.staff(0, 3), 0);
        Checks.due("home", x.staff(0, 4), NONE);
        Checks.staff("as written", x, 0, 18, 24, 20, 22, 26, 2, 1, 10);
        DanceStaffs y = Checks.told("d0 3 0l0l0cr4;");
        for (int n = 1; n <= 10; n++) {
            Checks.standing(y, 0, n, 0, 4, 0, LEFT);
        }
    }

    private static void brokenBeats() {
        Checks.sentence("BROKEN: the BEAT of the first SIGN that can not be (0 on).");
        for (int beat = 0; beat <= 9; beat++) {
            String rests = TEN.substring(0, beat);
            DanceStaffs x = Checks.told("d0 0 0" + rests + "j4" + TEN.substring(0, 9 - beat) + ";");
            Checks.due("off the floor at " + beat, x.staff(0, 1), beat);
            x.changes(0, beat, 18);
            Checks.due("on the floor at " + beat, x.staff(0, 1), NONE);
            Checks.due("the last alone", Checks.told("d0 0 0" + rests + "j4;").staff(0, 1), beat);
        }
        Checks.due("the first of two", Checks.told("d0 0 0.j4j4;").staff(0, 1), 1);
        Checks.due("by weight at 9", Checks.told("d3 3 0l0r4l0r4l0r4l0r4l0l4;").staff(0, 1), 9);
        Checks.due("an empty staff", Checks.told("d0 0 0;").staff(0, 1), NONE);
    }

    private static void standsBehindItsLastSign() {
        Checks.sentence("STANDING behind n BEATS (0: as it begins; behind its last SIGN it stays).");
        for (int signs = 0; signs <= 10; signs++) {
            StringBuilder text = new StringBuilder("d3 3 2");
            for (int i = 0; i < signs; i++) {
                text.append(i % 2 == 0 ? "l0" : "r4");
            }
            DanceStaffs x = Checks.told(text.append(';').toString());
            for (int n = 0; n <= 10; n++) {
                int done = Math.min(n, signs);
                Checks.standing(x, 0, n, 3 + done % 2, 3, 2, done == 0 ? BOTH : done % 2 == 1 ? LEFT : RIGHT);
            }
        }
    }

    private static void standingsTold() {
        Checks.sentence("STANDING behind n BEATS (0 .. 10): 0 x, 1 y, 2 where it LOOKS, 3 WEIGHT. BAD.");
        DanceStaffs x = Checks.told("d1 2 3;d6 5 4;");
        for (int wrong : Call.row(-1, 11, Integer.MIN_VALUE, Integer.MAX_VALUE)) {
            Checks.due("stand(0, " + wrong + ", 0)", x.stand(0, wrong, 0), BAD);
            Checks.due("stand(" + wrong + ", 0, 0)", x.stand(wrong, 0, 0), BAD);
            Checks.due("stand(0, 0, " + wrong + ")", x.stand(0, 0, wrong), BAD);
        }
        Checks.due("stand(2, 0, 0)", x.stand(2, 0, 0), BAD);
        Checks.due("stand(0, 0, 4)", x.stand(0, 0, 4), BAD);
        Checks.standing(x, 0, 0, 1, 2, 3, BOTH);
        Checks.standing(x, 1, 10, 6, 5, 4, BOTH);
        Checks.sentence("Of a STAFF: 0 SIGNS, 1 BROKEN (NONE), 2 SPAN, 3 SHIFTS, 4 HOME (NONE). BAD.");
        for (int wrong : Call.row(-1, 5, Integer.MIN_VALUE, Integer.MAX_VALUE)) {
            Checks.due("staff(0, " + wrong + ")", x.staff(0, wrong), BAD);
            Checks.due("staff(" + wrong + ", 0)", x.staff(wrong, 0), BAD);
        }
    }

    // ---- of a staff

    private static void ofStaff(String text, int what, int want) {
        Checks.due(text + " staff(0, " + what + ")", Checks.told(text).staff(0, what), want);
    }

    private static void spans() {
        Checks.sentence("SPAN: how many unlike places a STAFF is at (DANCED, where it begins, too).");
        ofStaff("d3 3 0;", 2, 1);
        ofStaff("d3 3 0" + TEN + ";", 2, 1);
        ofStaff("d3 3 0t1t1cc;", 2, 1);
        ofStaff("d0 0 4j0;", 2, 1);
        ofStaff("d0 0 0.........j0;", 2, 2);
        ofStaff("d0 0 0j0j0j0j0j0j0j2j2j2j2;", 2, 11);
        ofStaff("d0 0 1j0j0j0j0j0j0j2;", 2, 7);
        ofStaff("d6 6 5j0j0j0j0j0j0j4;", 2, 7);
        // (0, 6) and (6, 0) are unlike, and so are all that share x or y.
        ofStaff("d0 1 0j4j2j7j4;", 2, 3);
        ofStaff("d0 6 3j0j0j0j0j0j0;", 2, 7);
    }

    private static void shifts() {
        Checks.sentence("SHIFTS: how often WEIGHT is another one behind a BEAT than ahead of it.");
        ofStaff("d3 3 0;", 3, 0);
        ofStaff("d3 3 0ccj0j4.t1;", 3, 0);
        ofStaff("d3 3 0.........l0;", 3, 1);
        ofStaff("d3 3 0l0;", 3, 1);
        ofStaff("d3 3 0l0r4l0r4l0r4l0r4l0r4;", 3, 10);
        ofStaff("d3 3 0l0cl4cl0cl4cl0c;", 3, 10);
        ofStaff("d3 3 0l0l0r0c;", 3, 1);
        ofStaff("d3 3 0r0j4r0j4;", 3, 4);
    }

    private static void homes() {
        Checks.sentence("HOME: the first n (1 .. 10) behind which a DANCER is at the place where it begins, "
            + "having been elsewhere; NONE.");
        ofStaff("d3 3 0;", 4, NONE);
        ofStaff("d3 3 0" + TEN + ";", 4, NONE);
        ofStaff("d3 3 0j0;", 4, NONE);
        ofStaff("d3 3 0j0j4;", 4, 2);
        ofStaff("d3 3 0........j0j4;", 4, 10);
        ofStaff("d3 3 0j0........j4;", 4, 10);
        ofStaff("d3 3 0j0j4j0j4;", 4, 2);
        ofStaff("d3 3 0j0t4j0;", 4, 3);
        ofStaff("d3 3 0j0j2j4j6;", 4, 4);
        ofStaff("d3 6 0j0j4;", 4, NONE);
        ofStaff("d3 3 0l0l4;", 4, NONE);
        // At the same x alone, at the same y alone, it is elsewhere still.
        ofStaff("d3 3 0j1j6;", 4, NONE);
        ofStaff("d3 3 0j1j4;", 4, NONE);
    }
}
