/** Promises 15 to 18 at their bounds: six seen, the first and the last beat, none or one that can be. */
public final class SeenBoundsTest {
    private static final int BAD = DanceStaffs.BAD, FULL = DanceStaffs.FULL, NONE = DanceStaffs.NONE;
    private static final String TEN = "..........";

    public static void main(String[] args) {
        sixAtMost();
        everyPlaceAndBeat();
        refused();
        forgets();
        everyBeatCanBe();
        oneBeatAlone();
        restInstead();
        allThatWasSeen();
        dancerZeroAlone();
        behindItsLastSign();
        withoutSigns();
        lookAtEachBeat();
        lookFirstOfSeveral();
        lookOneAtMost();
        lookMostUnlike();
        Checks.end();
    }

    // ---- SEEN

    private static void sixAtMost() {
        Checks.sentence("SEEN (6 at most)");
        DanceStaffs x = Checks.told("d3 3 0j0;");
        for (int i = 1; i <= 6; i++) {
            Checks.due("sees " + i, x.sees(0, 3, 3), i);
        }
        Checks.due("a seventh", x.sees(0, 3, 3), FULL);
        Checks.due("a seventh, another place", x.sees(10, 0, 0), FULL);
        Checks.due("the seventh is not held against it", x.unseen(), 1);
        Checks.due("BAD ahead of FULL", x.sees(11, 3, 3), BAD);
        Checks.due("BAD ahead of FULL", x.sees(0, 7, 3), BAD);
        Checks.due("BAD ahead of FULL", x.sees(0, 3, -1), BAD);
        Checks.due("count(4)", x.count(4), 6);
        Checks.due("forget()", x.forget(), 6);
        Checks.due("then there is room", x.sees(0, 3, 3), 1);
        // The sixth counts like the first.
        DanceStaffs y = Checks.told("d3 3 0j0;");
        for (int i = 1; i <= 5; i++) {
            y.sees(0, 3, 3);
        }
        y.sees(1, 3, 4);
        Checks.due("the sixth is held against it", y.unseen(), 0);
    }

    private static void everyPlaceAndBeat() {
        Checks.sentence("SEEN: how much there is.");
        for (int n = 0; n <= 10; n++) {
            for (int place = 0; place < 49; place++) {
                DanceStaffs x = Checks.told("d" + place % 7 + " " + place / 7 + " 0.;");
                Checks.due("sees(" + n + ", ..)", x.sees(n, place % 7, place / 7), 1);
                Checks.due("it is so", x.unseen(), 1);
                x.forget();
                Checks.due("sees elsewhere", x.sees(n, (place + 1) % 7, place / 7), 1);
                Checks.due("it is not so, by x", x.unseen(), 0);
                x.forget();
                Checks.due("sees elsewhere", x.sees(n, place % 7, (place / 7 + 1) % 7), 1);
                Checks.due("it is not so, by y", x.unseen(), 0);
            }
        }
    }

    private static void refused() {
        Checks.sentence("BAD (without DANCERS, too); FULL: 6.");
        Checks.due("new", new DanceStaffs().sees(0, 0, 0), BAD);
        DanceStaffs none = Checks.told("d3 3 0j0;");
        none.dance();
        Checks.due("told that there are none", none.sees(0, 0, 0), BAD);
        DanceStaffs x = Checks.told("d3 3 0;");
        for (int wrong : Call.row(-1, 11, Integer.MIN_VALUE, Integer.MAX_VALUE)) {
            Checks.due("n = " + wrong, x.sees(wrong, 0, 0), BAD);
        }
        for (int wrong : Call.row(-1, 7, 10, Integer.MIN_VALUE, Integer.MAX_VALUE)) {
            Checks.due("x = " + wrong, x.sees(0, wrong, 0), BAD);
            Checks.due("y = " + wrong, x.sees(0, 0, wrong), BAD);
        }
        Checks.due("nothing was seen", x.count(4), 0);
        Checks.due("with an empty staff it can be", x.sees(0, 3, 3), 1);
    }

    private static void forgets() {
        Checks.sentence("Nothing is SEEN: how much was.");
        for (int seen = 0; seen <= 6; seen++) {
            DanceStaffs x = Checks.told("d3 3 0j0;");
            for (int i = 0; i < seen; i++) {
                x.sees(1, 0, 0);
            }
            Checks.due("unseen()", x.unseen(), seen == 0 ? 1 : 0);
            Checks.due("forget()", x.forget(), seen);
            Checks.due("forget() again", x.forget(), 0);
            Checks.due("count(4)", x.count(4), 0);
            Checks.due("unseen() then", x.unseen(), 1);
        }
        Checks.due("a new object", new DanceStaffs().forget(), 0);
    }

    // ---- UNSEEN

    private static void everyBeatCanBe() {
        Checks.sentence("UNSEEN: BEATS (bits) of its STAFF by which all that was SEEN is so.");
        for (int signs = 0; signs <= 10; signs++) {
            DanceStaffs x = Checks.told("d3 3 0" + TEN.substring(0, signs) + ";d3 3 0" + TEN + ";");
            Checks.due("nothing seen, " + signs + " signs", x.unseen(), (1 << signs) - 1);
        }
    }

    private static void oneBeatAlone() {
        Checks.sentence("one unknown SIGN of DANCER 0 being a REST instead");
        for (int beat = 0; beat <= 9; beat++) {
            DanceStaffs x = Checks.told("d3 3 0" + TEN + ";");
            x.changes(0, beat, 18);
            x.sees(10, 3, 3);
            Checks.due("the leap at " + beat + " was none", x.unseen(), 1 << beat);
            x.forget();
            x.sees(10, 3, 4);
            Checks.due("another one was none", x.unseen(), 1023 - (1 << beat));
        }
    }

    private static void restInstead() {
        Checks.sentence("being a REST instead, it would be at a place behind n BEATS");
        // Without the first left the second one can be; without the second one the right leads on.
        DanceStaffs left = Checks.told("d3 3 0l0l0r0;");
        left.sees(3, 3, 5);
        Checks.due("by weight", left.unseen(), 3);
        // Without the turn it goes off the floor, and stays.
        DanceStaffs turn = Checks.told("d0 3 6t4j0j0;");
        turn.sees(10, 0, 3);
        Checks.due("by the edge", turn.unseen(), 1);
        // A sign behind the one that can not be alters nothing, the broken one itself frees those behind it.
        DanceStaffs broken = Checks.told("d0 0 4j0j4j6;");
        broken.sees(10, 0, 0);
        Checks.due("behind a broken one", broken.unseen(), 6);
        broken.forget();
        broken.sees(2, 0, 1);
        Checks.due("the broken one", broken.unseen(), 1);
    }

    private static void allThatWasSeen() {
        Checks.sentence("by which all that was SEEN is so");
        DanceStaffs x = Checks.told("d0 0 0j0j0j0j0j0j0;");
        Checks.due("nothing seen", x.unseen(), 63);
        x.sees(0, 0, 0);
        Checks.due("as it begins", x.unseen(), 63);
        x.sees(6, 0, 5);
        Checks.due("the end tells nothing", x.unseen(), 63);
        x.sees(3, 0, 3);
        Checks.due("not the first three", x.unseen(), 56);
        x.sees(5, 0, 4);
        Checks.due("not the last", x.unseen(), 24);
        x.sees(4, 0, 3);
        Checks.due("the fourth", x.unseen(), 8);
        x.sees(4, 0, 4);
        Checks.due("none, for both can not be", x.unseen(), 0);
        Checks.due("six", x.count(4), 6);
    }

    private static void dancerZeroAlone() {
        Checks.sentence("one unknown SIGN of DANCER 0");
        DanceStaffs x = Checks.told("d3 3 0j0;d0 0 0j2j2;");
        x.sees(0, 0, 0);
        Checks.due("where another one is", x.unseen(), 0);
        x.forget();
        x.sees(10, 3, 3);
        x.canons(1, 0, 4);
        Checks.due("another staff does not matter", x.unseen(), 1);
    }

    private static void behindItsLastSign() {
        Checks.sentence("behind its last SIGN it stays");
        for (int n = 1; n <= 10; n++) {
            DanceStaffs x = Checks.told("d3 3 0j0;");
            x.sees(n, 3, 3);
            Checks.due("it is where it began, behind " + n, x.unseen(), 1);
            x.forget();
            x.sees(n, 3, 4);
            Checks.due("it can not have gone, behind " + n, x.unseen(), 0);
        }
    }

    private static void withoutSigns() {
        Checks.sentence("UNSEEN (bits).");
        Checks.due("a new object", new DanceStaffs().unseen(), 0);
        Checks.due("an empty staff", Checks.told("d3 3 0;d3 3 0j0;").unseen(), 0);
        DanceStaffs x = Checks.told("d3 3 0;");
        x.sees(10, 3, 3);
        Checks.due("an empty staff, seen", x.unseen(), 0);
        x.adds(0, 0);
        Checks.due("as things are now", x.unseen(), 1);
    }

    // ---- LOOK

    private static void lookAtEachBeat() {
        Checks.sentence("LOOK: the n (1 .. 10) behind which these tell the most unlike places");
        for (int beat = 0; beat <= 9; beat++) {
            DanceStaffs x = Checks.told("d3 3 0" + TEN + ";");
            x.changes(0, beat, 18);
            Checks.due("behind the leap at " + beat, x.look(), beat + 1);
        }
    }

    private static void lookFirstOfSeveral() {
        Checks.sentence("of several the first");
        Checks.due("all alike from the third on", Checks.told("d3 3 0..j0.j0;").look(), 3);
        Checks.due("two, then two others", Checks.told("d3 3 0j0j0;").look(), 1);
        Checks.due("no n tells them apart", Checks.told("d3 3 0..;").look(), 1);
        Checks.due("no n tells turns apart", Checks.told("d3 3 0" + "t1".repeat(10) + ";").look(), 1);
    }

    private static void lookOneAtMost() {
        Checks.sentence("NONE (one can be at most)");
        Checks.due("a new object", new DanceStaffs().look(), NONE);
        Checks.due("an empty staff", Checks.told("d3 3 0;d3 3 0j0j0;").look(), NONE);
        Checks.due("one sign", Checks.told("d3 3 0j0;").look(), NONE);
        Checks.due("one rest", Checks.told("d3 3 0.;").look(), NONE);
        Checks.due("two signs", Checks.told("d3 3 0.j0;").look(), 2);
        DanceStaffs x = Checks.told("d3 3 0j0j2j4;");
        x.sees(1, 3, 3);
        Checks.due("one of three can be", x.unseen(), 1);
        Checks.due("one of three can be", x.look(), NONE);
        x.sees(1, 3, 4);
        Checks.due("none can be", x.look(), NONE);
        x.forget();
        Checks.due("three can be", x.look(), 2);
    }

    private static void lookMostUnlike() {
        Checks.sentence("behind which these tell the most unlike places");
        // Behind 1 two places, behind 2 three, behind 3 four, behind 4 and on five.
        Checks.due("more and more", Checks.told("d2 3 0j0j1j2j3j4;").look(), 4);
        // Behind 2 three places, behind 3 two again.
        Checks.due("more, then less", Checks.told("d3 3 0j0j2j6;").look(), 2);
        // Only those that can be are asked.
        DanceStaffs x = Checks.told("d3 3 0j0j2j4;");
        x.sees(1, 3, 4);
        Checks.due("two can be", x.unseen(), 6);
        Checks.due("of those that can be", x.look(), 2);
        x.sees(2, 4, 4);
        Checks.due("one can be", x.look(), NONE);
        // Unlike by x alone and by y alone.
        Checks.due("by x", Checks.told("d3 3 2.j0;").look(), 2);
        Checks.due("by y", Checks.told("d3 3 0.j0;").look(), 2);
    }
}
