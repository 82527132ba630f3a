/** What all tests share: telling a text, comparing answers, ending with the exit code. */
final class Checks {
    private static int wrong = 0;
    private static String sentence = "";

    private Checks() {
    }

    /** The document's words that the checks from here on are for; told with each that fails. */
    static void sentence(String words) {
        sentence = "\"" + words + "\": ";
    }

    static void due(String call, long got, long want) {
        isTrue(call + " answered " + got + ", due is " + want, got == want);
    }

    static void isTrue(String what, boolean holds) {
        if (!holds) {
            wrong++;
            System.out.println(sentence + what);
        }
    }

    static void type(DanceStaffs x, String text) {
        for (int i = 0; i < text.length(); i++) {
            x.type(text.charAt(i));
        }
    }

    /** What dance() answers to a text typed into a new object. */
    static int danced(String text) {
        DanceStaffs x = new DanceStaffs();
        type(x, text);
        return x.dance();
    }

    static DanceStaffs told(String text) {
        DanceStaffs x = new DanceStaffs();
        type(x, text);
        int answer = x.dance();
        isTrue("the text '" + text + "' is refused: " + answer, answer >= 0);
        return x;
    }

    static void standing(DanceStaffs x, int d, int n, int... want) {
        for (int what = 0; what < want.length; what++) {
            due("stand(" + d + ", " + n + ", " + what + ")", x.stand(d, n, what), want[what]);
        }
    }

    static void staff(String when, DanceStaffs x, int d, int... want) {
        due(when + ": staff(" + d + ", 0)", x.staff(d, 0), want.length);
        for (int beat = 0; beat < want.length; beat++) {
            due(when + ": sign(" + d + ", " + beat + ")", x.sign(d, beat), want[beat]);
        }
        if (want.length < 10) {
            due(when + ": sign(" + d + ", " + want.length + ")", x.sign(d, want.length), DanceStaffs.NONE);
        }
    }

    /** What the first two dancers of a text do, asked both ways round. */
    static void together(String text, int meeting, int crossing) {
        DanceStaffs x = told(text);
        due(text + " meeting", x.meet(0, 1, 0), meeting);
        due(text + " meeting, the other way", x.meet(1, 0, 0), meeting);
        due(text + " crossing", x.meet(0, 1, 1), crossing);
        due(text + " crossing, the other way", x.meet(1, 0, 1), crossing);
        due(text + " twos", x.count(3), meeting != DanceStaffs.NONE || crossing != DanceStaffs.NONE ? 1 : 0);
    }

    static void end() {
        System.out.println(wrong == 0 ? "all answers are as due" : wrong + " answers are not as due");
        if (wrong != 0) {
            System.exit(1);
        }
    }
}
