/** Promises 44 and 45: MARKS. */
public final class MarksTest {
    private static final Check CHECK = new Check();
    private static final String SMALL = "scene a lines 1; kind k lots 1 tears 0 laughs 0 sleeps 0;";

    public static void main(String[] args) {
        promise44();
        promise45();
        whatStays();
        theBook();
        CHECK.finish();
    }

    private static void promise44() {
        OneSeat x = new OneSeat();
        CHECK.due(x, "none", x.back(), -1, 8);
        for (int k = 1; k <= 3; k++) {
            CHECK.due(x, "mark " + k, x.mark(), k, 0);
        }
        CHECK.due(x, "mark 4", x.mark(), -1, 7);
        for (int k = 2; k >= 0; k--) {
            CHECK.due(x, "back " + k, x.back(), k, 0);
        }
        CHECK.due(x, "none left", x.back(), -1, 8);
        CHECK.due(x, "mark again", x.mark(), 1, 0);
    }

    private static void promise45() {
        OneSeat x = new OneSeat();
        x.mark();
        Check.stage(x, Check.HOUSE);
        x.bar(0, true);
        x.kill(2, true);
        x.mark();
        x.kill(2, false);
        Check.night(x, "1");
        Check.week(x, "play; play; stop;");
        x.mark();
        Check.stage(x, SMALL);
        Check.week(x, "stop;");
        x.lot(0);
        CHECK.due(x, "back to the third", x.back(), 2, 0);
        CHECK.due(x, "its SCENES", x.many(2), 4, 0);
        CHECK.due(x, "its BARRED", x.many(5), 1, 0);
        CHECK.due(x, "its DEAD", x.many(6), 0, 0);
        CHECK.due(x, "its NIGHTS", x.many(4), 1, 0);
        CHECK.due(x, "its NIGHT", x.book(0, 0), 10, 0);
        CHECK.due(x, "its WEEK", x.run(1), 2, 0);
        CHECK.due(x, "its STEPS", x.ran(0), 3, 0);
        CHECK.due(x, "back to the second", x.back(), 1, 0);
        CHECK.due(x, "its DEAD", x.many(6), 4, 0);
        CHECK.due(x, "its NIGHTS", x.many(4), 0, 0);
        CHECK.due(x, "no WEEK", x.run(1), -1, 8);
        CHECK.due(x, "back to the first", x.back(), 0, 0);
        for (int what = 0; what <= 7; what++) {
            CHECK.due(x, "as new " + what, x.many(what), 0, 0);
        }
    }

    private static void whatStays() {
        OneSeat x = Check.with(Check.HOUSE);
        x.mark();
        x.tray(0, 0, 1);
        x.write(0, 0, 9);
        x.steer(9);
        x.cast(2);
        Check.week(x, "play; play;");
        x.run(0);
        x.odds(1, -1);
        Check.stage(x, "role a; role a;");
        Check.feed(x, "role");
        x.back();
        CHECK.due(x, "TRAYS stay", x.read(0, 0), 9, 0);
        CHECK.due(x, "steer() latest stays", x.steerAt(1), 1, 0);
        CHECK.due(x, "cast() latest stays", x.castAt(1), 1, 0);
        CHECK.due(x, "run() latest stays", x.ran(0), 2, 0);
        CHECK.due("the FRACTION stays", x.top() * 100 + x.bottom(), 716);
        CHECK.due("the FAULT stays", x.fault(1), 13);
        CHECK.due("the tape stays", x.feed(0, 0, 0, 0, 0), 40);
        CHECK.due(x, "but no WEEK", x.run(0), -1, 8);
    }

    private static void theBook() {
        OneSeat x = Check.with(Check.HOUSE);
        for (int k = 0; k < 20; k++) {
            Check.night(x, k < 5 ? "2" : "1");
        }
        x.mark();
        for (int k = 0; k < 20; k++) {
            Check.night(x, "01");
        }
        x.back();
        for (int k = 0; k < 20; k++) {
            CHECK.due(x, "NIGHT " + k, x.book(k, 0), k < 15 ? 10 : 9, 0);
            CHECK.due(x, "ENDING " + k, x.book(k, 1), k < 15 ? 2 : 1, 0);
            CHECK.due(x, "BREATHS " + k, x.book(k, 3), k < 15 ? 13 : 10, 0);
        }
    }
}
