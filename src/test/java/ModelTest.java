/** Long runs of mixed calls, ordinary and wrong ones, compared with Model call by call. */
public final class ModelTest {
    private static final int RUNS = 400, CALLS = 512;
    private static final String LETTERS = "dclrjt.; 0123456789x";

    // A row of numbers that is the same each time, so that a run that fails can be looked at again.
    private static long seed = 20261118L;

    private final DanceStaffs real = new DanceStaffs();
    private final Model model = new Model();
    private final StringBuilder calls = new StringBuilder();
    private int made = 0;

    public static void main(String[] args) {
        for (int run = 0; run < RUNS; run++) {
            if (!new ModelTest().isRunAlike(run)) {
                break;
            }
        }
        Checks.end();
    }

    private static int upTo(int most) {
        seed = seed * 6364136223846793005L + 1442695040888963407L;
        return (int) ((seed >>> 33) % (most + 1));
    }

    /** Mostly least .. most, now and then just beside it or far off. */
    private static int near(int least, int most) {
        int kind = upTo(79);
        if (kind == 0) {
            return least - 1;
        }
        if (kind == 1) {
            return most + 1;
        }
        if (kind == 2) {
            return upTo(1) == 0 ? Integer.MIN_VALUE : Integer.MAX_VALUE;
        }
        return least + upTo(most - least);
    }

    private boolean isRunAlike(int run) {
        while (made < CALLS) {
            if (!isCallAlike()) {
                System.out.println("run " + run + ": " + calls);
                return false;
            }
        }
        return true;
    }

    private boolean alike(String call, int got, int want) {
        made++;
        if (made > CALLS) {
            // What a later call answers is free; a text or a row of questions may reach beyond.
            return true;
        }
        calls.append(call).append(' ');
        Checks.due("behind " + made + " calls: " + call, got, want);
        return got == want;
    }

    private boolean isCallAlike() {
        if (made == 0 || upTo(60) == 0) {
            return isTextAlike(text());
        }
        int kind = upTo(19);
        if (kind < 5) {
            return isReadingAlike(kind);
        }
        return kind < 10 ? isDoneAlike(kind) : kind < 14 ? isWayAlike(kind) : isSeenAlike(kind);
    }

    private boolean isTextAlike(String text) {
        for (int i = 0; i < text.length(); i++) {
            if (!alike("type", real.type(text.charAt(i)), model.type(text.charAt(i)))) {
                return false;
            }
        }
        calls.append('\'').append(text).append("' ");
        boolean isAlike = alike("dance()", real.dance(), model.dance());
        return isAlike && (upTo(3) == 0 || alike("clear()", real.clear(), model.clear()));
    }

    private static String text() {
        StringBuilder text = new StringBuilder();
        int dancers = upTo(9) == 0 ? upTo(4) : 1 + upTo(2);
        for (int d = 0; d < dancers; d++) {
            blanks(text.append('d'));
            // Near to one another, so that they meet.
            blanks(text.append(2 + upTo(2)).append(' '));
            blanks(text.append(2 + upTo(2)).append(' '));
            blanks(text.append(upTo(7)));
            int signs = upTo(29) == 0 ? 11 : upTo(10);
            for (int i = 0; i < signs; i++) {
                blanks(text.append(sign()));
            }
            blanks(text.append(';'));
        }
        if (upTo(4) == 0) {
            spoil(text);
        }
        return text.length() > 110 ? text.substring(0, 110) : text.toString();
    }

    private static String sign() {
        switch (upTo(9)) {
            case 0: return ".";
            case 1: return "c";
            case 2: case 3: return "t" + (1 + upTo(6));
            case 4: case 5: return "j" + upTo(7);
            case 6: case 7: return "l" + upTo(7);
            default: return "r" + upTo(7);
        }
    }

    private static void blanks(StringBuilder text) {
        if (upTo(9) == 0) {
            text.append(" ".repeat(1 + upTo(2)));
        }
    }

    private static void spoil(StringBuilder text) {
        int place = upTo(Math.max(0, text.length() - 1));
        char letter = upTo(9) == 0 ? (char) upTo(255) : LETTERS.charAt(upTo(LETTERS.length() - 1));
        if (text.length() == 0 || upTo(2) == 0) {
            text.insert(place, letter);
        } else if (upTo(1) == 0) {
            text.setCharAt(place, letter);
        } else if (upTo(1) == 0) {
            text.deleteCharAt(place);
        } else {
            text.setLength(place);
        }
    }

    private boolean isReadingAlike(int kind) {
        int d = near(0, 2);
        int n = near(0, 10);
        int what = near(0, 4);
        switch (kind) {
            case 0: return alike("sign(" + d + ", " + n + ")", real.sign(d, n), model.sign(d, n));
            case 1: return alike("staff(" + d + ", " + what + ")", real.staff(d, what), model.staff(d, what));
            case 2: return alike("count(" + n + ")", real.count(n), model.count(n));
            case 3: return alike("type(" + n + ")", real.type(n), model.type(n));
            default:
                return alike("stand(" + d + ", " + n + ", " + what + ")", real.stand(d, n, what),
                    model.stand(d, n, what));
        }
    }

    private boolean isDoneAlike(int kind) {
        int d = near(0, 2);
        int other = near(0, 2);
        int n = near(0, 4);
        int beat = near(0, 9);
        int sign = near(0, 32);
        switch (kind) {
            case 5: return alike("mirrors(" + d + ")", real.mirrors(d), model.mirrors(d));
            case 6:
                return alike("canons(" + d + ", " + other + ", " + n + ")", real.canons(d, other, n),
                    model.canons(d, other, n));
            case 7:
                return alike("changes(" + d + ", " + beat + ", " + sign + ")", real.changes(d, beat, sign),
                    model.changes(d, beat, sign));
            case 8: return alike("adds(" + d + ", " + sign + ")", real.adds(d, sign), model.adds(d, sign));
            default: return alike("undo()", real.undo(), model.undo());
        }
    }

    private boolean isWayAlike(int kind) {
        int d = near(0, 2);
        if (kind < 12) {
            int other = near(0, 2);
            int what = near(0, 1);
            return alike("meet(" + d + ", " + other + ", " + what + ")", real.meet(d, other, what),
                model.meet(d, other, what));
        }
        int n = near(0, 10);
        int x = near(0, 6);
        int y = near(0, 6);
        int looks = near(0, 7);
        for (int k = -2; k < 9; k++) {
            String call = "fewest(" + d + ", " + n + ", " + x + ", " + y + ", " + looks + ", " + k + ")";
            if (!alike(call, real.fewest(d, n, x, y, looks, k), model.fewest(d, n, x, y, looks, k))) {
                return false;
            }
        }
        return true;
    }

    private boolean isSeenAlike(int kind) {
        int image = near(0, 1);
        switch (kind) {
            case 14: return isSightAlike();
            case 15: return alike("unseen()", real.unseen(), model.unseen());
            case 16: return alike("look()", real.look(), model.look());
            case 17: return alike("keep(" + image + ")", real.keep(image), model.keep(image));
            case 18: return upTo(2) > 0 || alike("back(" + image + ")", real.back(image), model.back(image));
            default: return upTo(2) > 0 || alike("forget()", real.forget(), model.forget());
        }
    }

    /** Mostly where the dancer is danced to be, else hardly a sign could ever be so. */
    private boolean isSightAlike() {
        int n = near(0, 10);
        boolean isFree = upTo(3) == 0;
        int x = isFree ? near(0, 6) : model.stand(0, n, 0);
        int y = isFree ? near(0, 6) : model.stand(0, n, 1);
        return alike("sees(" + n + ", " + x + ", " + y + ")", real.sees(n, x, y), model.sees(n, x, y));
    }
}
