/** Promises 8 to 12 at their bounds: mirrors, canons, changes, adds, undo, and what each leaves as it is. */
public final class DoneBoundsTest {
    private static final int BAD = DanceStaffs.BAD, STATE = DanceStaffs.STATE, FULL = DanceStaffs.FULL;
    private static final String TEN = "..........";

    public static void main(String[] args) {
        mirroredBy();
        mirroredStaffs();
        canonRests();
        canonFirstTen();
        canonOfEmpty();
        changed();
        added();
        undoneOfEachKind();
        tenAreKnown();
        lostForGood();
        refusedAreNotKnown();
        undoIsNotUndone();
        nothingElseChanges();
        Checks.end();
    }

    // ---- MIRRORED

    private static void mirroredBy() {
        Checks.sentence("LEFT becomes RIGHT, RIGHT LEFT, by k by 8 less k (0: 0), LEAP likewise, TURN by 8 less k");
        for (int k = 0; k <= 7; k++) {
            int by = k == 0 ? 0 : 8 - k;
            becomes(2 + k, 10 + by);
            becomes(10 + k, 2 + by);
            becomes(18 + k, 18 + by);
        }
        for (int k = 1; k <= 7; k++) {
            becomes(25 + k, 25 + 8 - k);
        }
        becomes(0, 0);
        becomes(1, 1);
    }

    private static void becomes(int sign, int want) {
        DanceStaffs x = Checks.told("d3 3 0" + TEN + ";");
        x.changes(0, 0, sign);
        x.changes(0, 9, sign);
        Checks.due("mirrors(0)", x.mirrors(0), 10);
        Checks.due("the first, " + sign + ", mirrored", x.sign(0, 0), want);
        Checks.due("the tenth, " + sign + ", mirrored", x.sign(0, 9), want);
    }

    private static void mirroredStaffs() {
        Checks.sentence("MIRRORED: SIGNS. BAD.");
        DanceStaffs x = Checks.told("d3 3 0;d3 3 0l1;d3 3 0" + TEN + ";");
        Checks.due("an empty one", x.mirrors(0), 0);
        Checks.due("of one sign", x.mirrors(1), 1);
        Checks.due("of ten", x.mirrors(2), 10);
        Checks.due("mirrors that alter no sign count too", x.count(6), 3);
        Checks.staff("of one", x, 1, 17);
        Checks.standing(x, 1, 0, 3, 3, 0, 2);
        for (int d : Call.row(-1, 3, Integer.MIN_VALUE, Integer.MAX_VALUE)) {
            Checks.due("mirrors(" + d + ")", x.mirrors(d), BAD);
        }
        Checks.due("refused ones do not", x.count(6), 3);
    }

    // ---- CANON

    private static void canonRests() {
        Checks.sentence("n RESTS (0 .. 4) ahead of it");
        for (int n = 0; n <= 4; n++) {
            DanceStaffs x = Checks.told("d3 3 0cl1;d0 0 0" + TEN + ";");
            Checks.due("canons(1, 0, " + n + ")", x.canons(1, 0, n), n + 2);
            for (int beat = 0; beat < 10; beat++) {
                int want = beat < n ? 0 : beat == n ? 1 : beat == n + 1 ? 3 : DanceStaffs.NONE;
                Checks.due("sign " + beat + " behind " + n + " rests", x.sign(1, beat), want);
            }
        }
        for (int n : Call.row(-1, 5, Integer.MIN_VALUE, Integer.MAX_VALUE)) {
            Checks.due("canons(1, 0, " + n + ")", Checks.told("d3 3 0cl1;d0 0 0;").canons(1, 0, n), BAD);
        }
    }

    private static void canonFirstTen() {
        Checks.sentence("(the first ten SIGNS of all)");
        for (int signs = 5; signs <= 10; signs++) {
            for (int n = 0; n <= 4; n++) {
                DanceStaffs x = Checks.told("d3 3 0;d0 0 0;");
                for (int i = 0; i < signs; i++) {
                    x.adds(0, 20 + i);
                }
                int all = Math.min(10, signs + n);
                Checks.due(n + " rests ahead of " + signs, x.canons(1, 0, n), all);
                for (int beat = 0; beat < all; beat++) {
                    Checks.due("sign " + beat, x.sign(1, beat), beat < n ? 0 : 20 + beat - n);
                }
                Checks.due("signs of the other one", x.staff(0, 0), signs);
            }
        }
    }

    private static void canonOfEmpty() {
        Checks.sentence("CANON: d has the STAFF of another one, n RESTS ahead: SIGNS.");
        for (int n = 0; n <= 4; n++) {
            DanceStaffs x = Checks.told("d3 3 0;d0 0 0j1j1;");
            Checks.due(n + " rests ahead of an empty one", x.canons(1, 0, n), n);
            Checks.staff("then", x, 1, new int[n]);
        }
        // As it is written, what can not be danced too.
        DanceStaffs broken = Checks.told("d0 0 0j4l0;d6 6 6;");
        Checks.due("of a broken one", broken.canons(1, 0, 1), 3);
        Checks.staff("of a broken one", broken, 1, 0, 22, 2);
        Checks.standing(broken, 1, 0, 6, 6, 6, 2);
    }

    // ---- CHANGED, ADDED

    private static void changed() {
        Checks.sentence("CHANGED: what it was. BAD (there is no such SIGN, too); STATE: it is that.");
        for (int sign = 0; sign <= 32; sign++) {
            DanceStaffs x = Checks.told("d3 3 0" + TEN + ";");
            Checks.due("changes(0, 9, " + sign + ")", x.changes(0, 9, sign), sign == 0 ? STATE : 0);
            Checks.due("sign(0, 9)", x.sign(0, 9), sign);
            Checks.due("it is that", x.changes(0, 9, sign), STATE);
            Checks.due("count(6)", x.count(6), sign == 0 ? 0 : 1);
            Checks.due("back to a rest", x.changes(0, 9, 0), sign == 0 ? STATE : sign);
        }
        for (int signs = 0; signs <= 10; signs++) {
            DanceStaffs x = Checks.told("d3 3 0" + TEN.substring(0, signs) + ";d3 3 0" + TEN + ";");
            for (int beat = -1; beat <= 10; beat++) {
                int want = beat >= 0 && beat < signs ? 0 : BAD;
                Checks.due("changes(0, " + beat + ", 1) of " + signs, x.changes(0, beat, 1), want);
            }
            Checks.due("signs", x.staff(0, 0), signs);
        }
    }

    private static void added() {
        Checks.sentence("ADDED: SIGNS. BAD; FULL: 10.");
        for (int sign = 0; sign <= 32; sign++) {
            DanceStaffs x = Checks.told("d3 3 0;d3 3 0.........;");
            Checks.due("the first", x.adds(0, sign), 1);
            Checks.staff("the first", x, 0, sign);
            Checks.due("the tenth", x.adds(1, sign), 10);
            Checks.due("the tenth", x.sign(1, 9), sign);
            Checks.due("the eleventh", x.adds(1, sign), FULL);
            Checks.due("the tenth still", x.sign(1, 9), sign);
            Checks.due("count(6)", x.count(6), 2);
        }
        DanceStaffs x = Checks.told("d3 3 0" + TEN + ";");
        Checks.due("BAD ahead of FULL, sign 33", x.adds(0, 33), BAD);
        Checks.due("BAD ahead of FULL, sign -1", x.adds(0, -1), BAD);
        Checks.due("BAD ahead of FULL, dancer 1", x.adds(1, 0), BAD);
    }

    // ---- UNDONE

    private static void undoneOfEachKind() {
        Checks.sentence("UNDONE: the latest mirrors(), canons(), changes(), adds() that was not refused");
        DanceStaffs x = Checks.told("d3 3 0l1r2;d3 3 0.........;d3 3 0" + TEN + ";");
        x.mirrors(0);
        Checks.due("mirrors() undone", x.undo(), 0);
        Checks.staff("mirrors() undone", x, 0, 3, 12);
        x.canons(0, 2, 4);
        Checks.due("a longer canons() undone", x.undo(), 0);
        Checks.staff("a longer canons() undone", x, 0, 3, 12);
        x.canons(2, 0, 0);
        Checks.due("a shorter canons() undone", x.undo(), 0);
        Checks.staff("a shorter canons() undone", x, 2, new int[10]);
        x.changes(0, 1, 0);
        Checks.due("changes() undone", x.undo(), 0);
        Checks.staff("changes() undone", x, 0, 3, 12);
        x.adds(1, 5);
        Checks.due("the tenth is undone", x.undo(), 0);
        Checks.staff("the tenth is undone", x, 1, new int[9]);
        Checks.sentence("STATE: none.");
        Checks.due("no more", x.undo(), STATE);
    }

    private static void tenAreKnown() {
        Checks.sentence("(10 are known, older ones are lost)");
        for (int done = 0; done <= 25; done++) {
            DanceStaffs x = Checks.told("d3 3 0.;");
            for (int i = 1; i <= done; i++) {
                x.changes(0, 0, i);
            }
            int known = Math.min(done, 10);
            Checks.due("may be undone of " + done, x.count(6), known);
            for (int i = 1; i <= known; i++) {
                Checks.due("undo " + i + " of " + done, x.undo(), known - i);
                Checks.due("sign behind undo " + i + " of " + done, x.sign(0, 0), done - i);
            }
            Checks.due("one more of " + done, x.undo(), STATE);
            Checks.due("sign behind all of " + done, x.sign(0, 0), done - known);
        }
    }

    /** What was lost does not come again when undo() makes room. */
    private static void lostForGood() {
        Checks.sentence("older ones are lost");
        DanceStaffs x = Checks.told("d3 3 0;d3 3 0;d3 3 0;");
        for (int i = 0; i < 12; i++) {
            x.adds(i % 3, 18 + i % 8);
        }
        for (int i = 9; i >= 4; i--) {
            Checks.due("undo", x.undo(), i);
        }
        Checks.due("mirrors(0)", x.mirrors(0), 2);
        Checks.due("five may be", x.count(6), 5);
        for (int i = 4; i >= 0; i--) {
            Checks.due("undo", x.undo(), i);
        }
        Checks.due("the first two are lost", x.undo(), STATE);
        Checks.staff("0", x, 0, 18);
        Checks.staff("1", x, 1, 19);
        Checks.staff("2", x, 2);
    }

    private static void refusedAreNotKnown() {
        Checks.sentence("that was not refused");
        DanceStaffs x = Checks.told("d3 3 0.;d3 3 0" + TEN + ";");
        x.changes(0, 0, 7);
        x.mirrors(2);
        x.canons(0, 0, 0);
        x.canons(0, 1, 5);
        x.changes(0, 0, 7);
        x.changes(0, 1, 7);
        x.changes(0, 0, 33);
        x.adds(1, 0);
        x.adds(0, 33);
        Checks.due("one may be undone", x.count(6), 1);
        Checks.due("that one", x.undo(), 0);
        Checks.staff("that one", x, 0, 0);
    }

    private static void undoIsNotUndone() {
        Checks.sentence("UNDONE: how many more may be.");
        DanceStaffs x = Checks.told("d3 3 0.;");
        x.changes(0, 0, 1);
        x.changes(0, 0, 2);
        Checks.due("undo()", x.undo(), 1);
        Checks.due("undo() goes on back", x.undo(), 0);
        Checks.staff("as it was", x, 0, 0);
        x.changes(0, 0, 3);
        Checks.due("undo() behind a new one", x.undo(), 0);
        Checks.staff("as it was", x, 0, 0);
    }

    // ---- all else stays

    private static void nothingElseChanges() {
        Checks.sentence("MIRRORED, a STAFF .. CANON: a DANCER .. CHANGED: a SIGN of a STAFF .. ADDED: a SIGN");
        String[] names = {"mirrors", "canons", "changes", "adds", "undo"};
        for (int kind = 0; kind < names.length; kind++) {
            DanceStaffs x = Checks.told("d3 3 0l1;d2 2 4r2;d1 1 2j3;");
            x.keep(0);
            x.adds(1, 1);
            x.sees(0, 3, 3);
            Checks.type(x, "d5 5 5;");
            does(x, kind);
            Checks.due(names[kind] + " leaves the text", x.count(5), 7);
            Checks.due(names[kind] + " leaves what was seen", x.count(4), 1);
            Checks.due(names[kind] + " leaves dancers", x.count(0), 3);
            Checks.staff(names[kind] + " leaves the first", x, 0, 3);
            Checks.staff(names[kind] + " leaves the last", x, 2, 21);
            Checks.standing(x, 1, 0, 2, 2, 4, 2);
            Checks.due(names[kind] + " leaves the image", x.back(0), 3);
            Checks.staff(names[kind] + " leaves the image", x, 1, 12);
            Checks.due(names[kind] + " leaves no image 1", x.back(1), STATE);
        }
    }

    private static void does(DanceStaffs x, int kind) {
        switch (kind) {
            case 0: x.mirrors(1); break;
            case 1: x.canons(1, 0, 1); break;
            case 2: x.changes(1, 0, 9); break;
            case 3: x.adds(1, 9); break;
            default: x.undo(); break;
        }
    }
}
