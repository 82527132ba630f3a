/** What all tests share: telling a text, comparing answers, ending with the exit code. */
final class Checks {
    private static int wrong = 0;

    private Checks() {
    }

    static void due(String call, long got, long want) {
        if (got != want) {
            wrong++;
            System.out.println(call + " answered " + got + ", due is " + want);
        }
    }

    static void isTrue(String what, boolean holds) {
        if (!holds) {
            wrong++;
            System.out.println(what);
        }
    }

    static void type(DanceStaffs x, String text) {
        for (int i = 0; i < text.length(); i++) {
            x.type(text.charAt(i));
        }
    }

    /** What dance() answers to a text typed into a new object. */
    static int danced(String text) {
        DanceStaffs x = new DanceStaffs();
        type(x, text);
        return x.dance();
    }

    static DanceStaffs told(String text) {
        DanceStaffs x = new DanceStaffs();
        type(x, text);
        int answer = x.dance();
        isTrue("the text '" + text + "' is refused: " + answer, answer >= 0);
        return x;
    }

    static void standing(DanceStaffs x, int d, int n, int... want) {
        for (int what = 0; what < want.length; what++) {
            due("stand(" + d + ", " + n + ", " + what + ")", x.stand(d, n, what), want[what]);
        }
    }

    static void staff(String when, DanceStaffs x, int d, int... want) {
        due(when + ": staff(" + d + ", 0)", x.staff(d, 0), want.length);
        for (int beat = 0; beat < want.length; beat++) {
            due(when + ": sign(" + d + ", " + beat + ")", x.sign(d, beat), want[beat]);
        }
        if (want.length < 10) {
            due(when + ": sign(" + d + ", " + want.length + ")", x.sign(d, want.length), DanceStaffs.NONE);
        }
    }

    static void end() {
        System.out.println(wrong == 0 ? "all answers are as due" : wrong + " answers are not as due");
        if (wrong != 0) {
            System.exit(1);
        }
    }
}
