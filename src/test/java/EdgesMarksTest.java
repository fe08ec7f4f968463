/** Boundary cases of promises 44 and 45: MARKS; and 512 calls. */
public final class EdgesMarksTest {
    private static final Edges EDGES = new Edges();
    private static final String SMALL = "role r; role s; scene a lines 1 with r ends 1; scene b lines 2 ends 2 tear a; kind k lots 1 tears 0 laughs 0 sleeps 0;";

    public static void main(String[] args) {
        marksRefused();
        marks();
        backOfNothing();
        whatIsKept();
        aMarkStaysAsItIs();
        oneMarkTwice();
        whatIsNotKept();
        manyCalls();
        EDGES.finish(44, 45);
    }

    private static void marksRefused() {
        EDGES.says(44, "A MARK more: how many there are (7).");
        EDGES.refused(7, "a fourth", x -> x.mark(), x -> x.mark());
        EDGES.says(45, "All is taken back to the latest MARK: how many there are left (8).");
        EDGES.refused(8, "none left", x -> {
            x.back();
            x.back();
        }, x -> x.back());
    }

    private static void marks() {
        EDGES.says(44, "MARKS, at most 3");
        OneSeat x = new OneSeat();
        for (int k = 1; k <= 3; k++) {
            EDGES.fine(x, "mark " + k, x.mark(), k);
        }
        EDGES.no(x, 7, "mark 4", x.mark());
        EDGES.no(x, 7, "mark 4 again", x.mark());
        EDGES.fine(x, "back to two", x.back(), 2);
        EDGES.fine(x, "a third again", x.mark(), 3);
        EDGES.no(x, 7, "no fourth", x.mark());
        EDGES.says(45, "all is taken back to the latest MARK, which is gone then");
        for (int k = 2; k >= 0; k--) {
            EDGES.fine(x, "back to " + k, x.back(), k);
        }
        EDGES.no(x, 8, "none left", x.back());
        EDGES.no(x, 8, "none left again", x.back());
        EDGES.fine(x, "a first again", x.mark(), 1);
    }

    private static void backOfNothing() {
        EDGES.says(45, "how many there are left (8)");
        OneSeat x = new OneSeat();
        EDGES.no(x, 8, "ahead of any", x.back());
        x.mark();
        Check.stage(x, SMALL);
        Check.week(x, "play;");
        x.bar(0, true);
        x.kill(1, true);
        x.lot(0);
        EDGES.fine(x, "back to nothing at all", x.back(), 0);
        for (int what = 0; what <= 7; what++) {
            EDGES.fine(x, "many " + what, x.many(what), 0);
        }
        EDGES.no(x, 8, "no WEEK", x.run(0));
        EDGES.no(x, 2, "no SCENE", x.scene(0, 0));
        EDGES.no(x, 8, "no NIGHT", x.book(0, 0));
    }

    private static void whatIsKept() {
        EDGES.says(45, "the STAGE, what is BARRED, DEAD, the BOOK, the WEEK are kept as they are");
        OneSeat x = Check.with(SMALL);
        Check.week(x, "play; play; stop;");
        x.bar(0, true);
        x.kill(1, true);
        Check.night(x, "1");
        x.mark();
        x.bar(0, false);
        x.kill(1, false);
        x.kill(0, true);
        Check.night(x, "");
        Check.week(x, "stop;");
        EDGES.fine(x, "on the same STAGE", x.back(), 0);
        asKept(x, 1);
        x.mark();
        Check.stage(x, "scene z lines 9;");
        Check.night(x, "");
        EDGES.fine(x, "behind another STAGE", x.back(), 0);
        asKept(x, 3);
        EDGES.fine(x, "its NAMES", Check.week(x, "bar a; buy s; play k;"), 3);
    }

    private static void asKept(OneSeat x, int nights) {
        int[] due = {2, 0, 2, 1, nights, 1, 2, 3};
        for (int what = 0; what <= 7; what++) {
            EDGES.fine(x, "many " + what, x.many(what), due[what]);
        }
        EDGES.fine(x, "the oldest NIGHT", x.book(nights - 1, 0), 2);
        EDGES.fine(x, "ENDING of SCENE 1", x.scene(1, 2), 2);
        EDGES.fine(x, "the WEEK", x.run(0), 2);
        EDGES.fine(x, "its STEPS", x.ran(0), 3);
    }

    private static void aMarkStaysAsItIs() {
        EDGES.says(44, "are kept as they are");
        OneSeat x = Check.with(SMALL);
        for (int k = 0; k < 20; k++) {
            Check.night(x, "" + k % 2);
        }
        x.mark();
        for (int k = 0; k < 25; k++) {
            Check.night(x, "");
        }
        x.mark();
        x.lot(0);
        EDGES.fine(x, "the later one", x.back(), 1);
        for (int k = 0; k < 20; k++) {
            EDGES.fine(x, "its NIGHT " + k, x.book(k, 0), 2);
            EDGES.fine(x, "its KIND " + k, x.book(k, 2), -1);
        }
        EDGES.fine(x, "the one ahead", x.back(), 0);
        for (int k = 0; k < 20; k++) {
            EDGES.fine(x, "its NIGHT " + k, x.book(k, 0), k % 2 == 0 ? 3 : 2);
        }
        EDGES.no(x, 8, "its 21st", x.book(20, 0));
    }

    private static void oneMarkTwice() {
        EDGES.says(45, "which is gone then");
        OneSeat x = Check.with(SMALL);
        x.bar(0, true);
        x.mark();
        x.bar(1, true);
        x.mark();
        x.bar(1, false);
        EDGES.fine(x, "the latest", x.back(), 1);
        EDGES.fine(x, "both are BARRED", x.many(5), 3);
        x.bar(0, false);
        x.mark();
        EDGES.fine(x, "another in its place", x.back(), 1);
        EDGES.fine(x, "the other one", x.many(5), 2);
        EDGES.fine(x, "the first", x.back(), 0);
        EDGES.fine(x, "a alone is BARRED", x.many(5), 1);
    }

    private static void whatIsNotKept() {
        EDGES.says(45, "the STAGE, what is BARRED, DEAD, the BOOK, the WEEK are kept as they are; all is taken back to the latest MARK");
        OneSeat x = Check.with(SMALL);
        x.mark();
        x.tray(0, 3, 2);
        x.write(0, 1, 77);
        EDGES.fine(x, "back", x.back(), 0);
        EDGES.fine(x, "a TRAY", x.read(0, 1), 77);
        x.mark();
        Check.feed(x, "scene z lines 1;");
        x.back();
        EDGES.due("the tape", x.feed(0, 0, 0, 0, 0), 40);
        x.mark();
        Check.week(x, "?");
        x.back();
        EDGES.due("the FAULT", x.fault(0), 2);
    }

    private static void manyCalls() {
        EDGES.says(45, "An object is used for at most 512 calls");
        OneSeat x = new OneSeat();
        for (int k = 0; k < 128; k++) {
            EDGES.fine(x, "mark " + k, x.mark(), 1);
            EDGES.fine(x, "back " + k, x.back(), 0);
        }
    }
}
