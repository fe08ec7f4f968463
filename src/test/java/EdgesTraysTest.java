/** Boundary cases of promises 1 to 8: a new object, STATUS, the FRACTION, TRAYS. */
public final class EdgesTraysTest {
    private static final Edges EDGES = new Edges();

    public static void main(String[] args) {
        newObject();
        newObjectRefuses();
        objectsAreApart();
        status();
        fraction();
        fractionOfNothing();
        traySizes();
        trayAnew();
        trayRefused();
        writeCuts();
        writeRefused();
        read();
        readRefused();
        pour();
        pourWithin();
        pourStatuses();
        pourPlaces();
        EDGES.finish(1, 8);
    }

    private static void newObject() {
        OneSeat x = new OneSeat();
        EDGES.says(1, "STATUS 0, the FRACTION 0 by 1");
        EDGES.due("STATUS", x.status(), 0);
        EDGES.due("top", x.top(), 0);
        EDGES.due("bottom", x.bottom(), 1);
        EDGES.says(1, "TRAYS are MISSING");
        for (int tray = 0; tray < 4; tray++) {
            EDGES.no(x, 3, "read " + tray, x.read(tray, 0));
            EDGES.no(x, 3, "write " + tray, x.write(tray, 0, 0));
        }
        EDGES.says(1, "no STAGE (no ROLES, SCENES ..), an empty BOOK");
        for (int what = 0; what <= 7; what++) {
            EDGES.fine(x, "many " + what, x.many(what), 0);
        }
        EDGES.fine(x, "unseen", x.unseen(), 0);
        EDGES.no(x, 8, "book", x.book(0, 0));
        EDGES.no(x, 8, "suspects", x.suspects(0));
        EDGES.says(1, "an empty tape");
        EDGES.no(x, 5, "stage(1)", x.stage(1));
        EDGES.no(x, 5, "week(1)", x.week(1));
        EDGES.due("feed", x.feed(0, 0, 0, 0, 0), 20);
        EDGES.says(1, "no WEEK, MARKS");
        EDGES.no(x, 8, "run", x.run(0));
        EDGES.no(x, 8, "often", x.often(0, 0, 1));
        EDGES.no(x, 8, "back", x.back());
        EDGES.fine(x, "mark", x.mark(), 1);
    }

    private static void newObjectRefuses() {
        OneSeat x = new OneSeat();
        EDGES.says(1, "no STAGE (no ROLES, SCENES ..)");
        EDGES.no(x, 2, "scene", x.scene(0, 0));
        EDGES.no(x, 2, "kind", x.kind(0, 0));
        EDGES.no(x, 2, "actor", x.actor(0, 0));
        EDGES.no(x, 2, "bar", x.bar(0, true));
        EDGES.no(x, 2, "kill", x.kill(0, true));
        EDGES.no(x, 2, "breaths", x.breaths(0, 1));
        EDGES.no(x, 2, "by", x.by(0));
        EDGES.no(x, 2, "seen", x.seen(0, -1));
        EDGES.no(x, 2, "who", x.who(0, 0));
        EDGES.no(x, 5, "led", x.led(0));
        EDGES.no(x, 5, "heard", x.heard(0));
        EDGES.no(x, 8, "lot", x.lot(0));
        EDGES.no(x, 8, "odds", x.odds(0, -1));
        EDGES.no(x, 8, "mean", x.mean(-1));
        EDGES.no(x, 8, "death", x.death(0));
        EDGES.no(x, 8, "cast", x.cast(1));
        EDGES.no(x, 8, "castAt", x.castAt(0));
        EDGES.no(x, 8, "steerAt", x.steerAt(0));
        EDGES.no(x, 8, "ran", x.ran(0));
        EDGES.no(x, 9, "ways", x.ways());
        EDGES.due("fault", x.fault(0), -1);
        EDGES.due("its place", x.fault(1), -1);
    }

    private static void objectsAreApart() {
        EDGES.says(1, "TRAYS are MISSING, no STAGE (no ROLES, SCENES ..), an empty BOOK, no WEEK, MARKS, an empty tape");
        Edges.full();
        OneSeat x = new OneSeat();
        EDGES.no(x, 3, "a TRAY beside a full object", x.read(0, 0));
        EDGES.fine(x, "SCENES beside a full object", x.many(2), 0);
        EDGES.no(x, 8, "MARKS beside a full object", x.back());
        EDGES.due("the tape beside a full object", x.feed(0, 0, 0, 0, 0), 20);
    }

    private static void status() {
        EDGES.says(2, "The STATUS of the latest call that has one.");
        OneSeat x = new OneSeat();
        x.tray(9, 0, 0);
        EDGES.due("a refused call", x.status(), 1);
        EDGES.due("asked again", x.status(), 1);
        x.tray(0, 0, 0);
        EDGES.due("one that is fine behind it", x.status(), 0);
        EDGES.says(2, "status(), fault(), feed(), top(), bottom() have none.");
        x.many(8);
        x.fault(0);
        x.fault(9);
        EDGES.due("fault()", x.status(), 5);
        x.top();
        x.bottom();
        EDGES.due("top(), bottom()", x.status(), 5);
        for (int k = 0; k < 45; k++) {
            x.feed(0, 0, 0, 0, 0);
        }
        EDGES.due("feed()", x.status(), 5);
        EDGES.due("the tape is full", x.feed(0, 0, 0, 0, 0), -1);
        EDGES.due("feed() that can't", x.status(), 5);
    }

    private static void fraction() {
        OneSeat x = Edges.full();
        EDGES.says(3, "The top of the FRACTION told latest.");
        EDGES.told(x, "without a divisor", x.odds(2, 1), 0, 1);
        EDGES.told(x, "sixteenths", x.odds(1, 0), 1, 4);
        EDGES.says(4, "Its bottom, above 0.");
        EDGES.due("many() tells none", x.many(2), 5);
        EDGES.due("bottom behind it", x.bottom(), 4);
        x.odds(9, 7);
        EDGES.due("bottom behind a refused call", x.bottom(), 4);
        EDGES.due("top behind a refused call", x.top(), 1);
        EDGES.says(3, "FRACTIONS are told by top() and bottom() without a common divisor, the bottom above 0; 0 is 0 by 1.");
        EDGES.told(x, "all: 1 by 1", x.seen(4, -1), 1, 1);
        EDGES.told(x, "nothing: 0 by 1", x.seen(0, -1), 0, 1);
        EDGES.told(x, "a whole number: by 1", x.mean(1), 9, 1);
    }

    private static void fractionOfNothing() {
        EDGES.says(4, "0 is 0 by 1.");
        OneSeat x = Check.with("role a; scene s lines 20 ends 0; kind k lots 30 tears 0 laughs 0 sleeps 0;");
        Check.week(x, "play; stop;");
        EDGES.told(x, "odds", x.odds(9, 0), 0, 1);
        EDGES.told(x, "mean", x.mean(-1), 0, 1);
        EDGES.told(x, "often, of 20", x.often(9, 0, 20), 0, 1);
        EDGES.told(x, "often, all of 20", x.often(0, 0, 20), 1, 1);
        EDGES.told(x, "who", x.who(0, 0), 1, 1);
    }

    private static void traySizes() {
        OneSeat x = new OneSeat();
        EDGES.says(5, "A TRAY is a row of so many numbers (at most 60; 5), all 0 (1; 5; 6).");
        EDGES.fine(x, "60 numbers", x.tray(0, 0, 60));
        EDGES.fine(x, "the 60th", x.read(0, 59), 0);
        EDGES.no(x, 4, "no 61st", x.read(0, 60));
        EDGES.fine(x, "no numbers", x.tray(1, 1, 0));
        EDGES.no(x, 4, "it is there, but has no place", x.read(1, 0));
        EDGES.fine(x, "one number", x.tray(3, 3, 1));
        EDGES.fine(x, "its one", x.read(3, 0), 0);
        EDGES.no(x, 4, "not two", x.read(3, 1));
        EDGES.says(5, "TRAYS, 0 to 3");
        for (int tray = 0; tray < 4; tray++) {
            EDGES.fine(x, "tray " + tray, x.tray(tray, tray, 2));
            EDGES.fine(x, "its number " + tray, x.read(tray, 1), 0);
        }
    }

    private static void trayAnew() {
        EDGES.says(5, "all 0");
        OneSeat x = new OneSeat();
        x.tray(2, 3, 60);
        for (int k = 0; k < 60; k++) {
            x.write(2, k, -k - 1);
        }
        EDGES.fine(x, "a TRAY anew", x.tray(2, 3, 60));
        for (int k = 0; k < 60; k++) {
            EDGES.fine(x, "its number " + k, x.read(2, k), 0);
        }
        x.write(2, 59, 5);
        x.tray(2, 3, 1);
        x.tray(2, 3, 60);
        EDGES.fine(x, "smaller and larger again", x.read(2, 59), 0);
    }

    private static void trayRefused() {
        EDGES.says(5, "1 no such TRAY (or sort).");
        EDGES.denied(1, "tray -1", x -> x.tray(-1, 0, 1));
        EDGES.denied(1, "tray 4", x -> x.tray(4, 0, 1));
        EDGES.denied(1, "sort -1", x -> x.tray(0, -1, 1));
        EDGES.denied(1, "sort 4", x -> x.tray(0, 4, 1));
        EDGES.denied(1, "1 ahead of 5", x -> x.tray(4, 0, 61));
        EDGES.denied(1, "1 of the sort ahead of 5", x -> x.tray(0, 4, 61));
        EDGES.denied(1, "1 ahead of 6", x -> x.tray(-1, 0, -1));
        EDGES.denied(1, "1 of the sort ahead of 6", x -> x.tray(0, -1, -1));
        EDGES.says(5, "(at most 60; 5)");
        EDGES.denied(5, "61", x -> x.tray(0, 0, 61));
        EDGES.denied(5, "61 where MISSING", x -> x.tray(2, 0, 61));
        EDGES.denied(5, "far too many", x -> x.tray(0, 0, Integer.MAX_VALUE));
        EDGES.says(5, "6 below 0 (a TRAY's length).");
        EDGES.denied(6, "-1", x -> x.tray(0, 0, -1));
        EDGES.denied(6, "-1 where MISSING", x -> x.tray(2, 0, -1));
        EDGES.denied(6, "far below", x -> x.tray(0, 0, Integer.MIN_VALUE));
        for (int far : Edges.FAR_OFF) {
            EDGES.denied(1, "tray " + far, x -> x.tray(far, 0, 1));
            EDGES.denied(1, "sort " + far, x -> x.tray(0, far, 1));
        }
    }

    private static void cut(OneSeat x, int sort, long v, long due) {
        EDGES.fine(x, "sort " + sort + " write " + v, x.write(sort, 1, v));
        EDGES.fine(x, "sort " + sort + " read " + v, x.read(sort, 1), due);
    }

    private static void writeCuts() {
        EDGES.says(6, "rows of numbers of 8 bits (sort 0), 16 (1), 32 (2) or 64 (3), with sign; what is written is cut to these.");
        OneSeat x = new OneSeat();
        for (int sort = 0; sort < 4; sort++) {
            x.tray(sort, sort, 3);
            cut(x, sort, -1, -1);
            cut(x, sort, 127, 127);
            cut(x, sort, -128, -128);
        }
        for (int sort = 0; sort < 3; sort++) {
            long wrap = 1L << (8 << sort);
            long half = wrap / 2;
            cut(x, sort, half - 1, half - 1);
            cut(x, sort, half, -half);
            cut(x, sort, -half, -half);
            cut(x, sort, -half - 1, half - 1);
            cut(x, sort, wrap - 1, -1);
            cut(x, sort, wrap, 0);
            cut(x, sort, wrap + 5, 5);
            cut(x, sort, Long.MAX_VALUE, -1);
            cut(x, sort, Long.MIN_VALUE, 0);
        }
        cut(x, 3, Long.MAX_VALUE, Long.MAX_VALUE);
        cut(x, 3, Long.MIN_VALUE, Long.MIN_VALUE);
        cut(x, 3, 1L << 32, 1L << 32);
        for (int sort = 0; sort < 4; sort++) {
            EDGES.fine(x, "the place ahead stays", x.read(sort, 0), 0);
            EDGES.fine(x, "the place behind stays", x.read(sort, 2), 0);
        }
    }

    private static void writeRefused() {
        EDGES.says(6, "A number comes to a place of a TRAY (1; 3; 4).");
        EDGES.denied(1, "tray -1", x -> x.write(-1, 0, 1));
        EDGES.denied(1, "tray 4", x -> x.write(4, 0, 1));
        EDGES.denied(1, "1 ahead of 4", x -> x.write(4, -1, 1));
        EDGES.denied(3, "MISSING", x -> x.write(2, 0, 1));
        EDGES.denied(3, "3 ahead of 4", x -> x.write(2, -1, 1));
        EDGES.denied(4, "place -1", x -> x.write(0, -1, 1));
        EDGES.denied(4, "just behind the last place", x -> x.write(0, 5, 1));
        EDGES.denied(4, "no place at all", x -> x.tray(2, 2, 0), x -> x.write(2, 0, 1));
        for (int far : Edges.FAR_OFF) {
            EDGES.denied(1, "tray " + far, x -> x.write(far, 0, 1));
            EDGES.denied(4, "place " + far, x -> x.write(0, far, 1));
        }
        OneSeat x = Edges.full();
        EDGES.fine(x, "the first place", x.write(0, 0, 9));
        EDGES.fine(x, "the last place", x.write(0, 4, 8));
        EDGES.fine(x, "the first number", x.read(0, 0), 9);
        EDGES.fine(x, "the last number", x.read(0, 4), 8);
    }

    private static void read() {
        EDGES.says(7, "The number in a place of a TRAY; STATUS tells NONE from -1 (1; 3; 4).");
        OneSeat x = new OneSeat();
        x.tray(0, 0, 2);
        x.write(0, 1, -1);
        x.read(0, 2);
        EDGES.fine(x, "-1, behind a refused call", x.read(0, 1), -1);
        EDGES.no(x, 4, "NONE", x.read(0, 2));
        EDGES.fine(x, "0", x.read(0, 0), 0);
    }

    private static void readRefused() {
        EDGES.says(7, "STATUS tells NONE from -1 (1; 3; 4).");
        EDGES.refused(1, "tray -1", x -> x.read(-1, 0));
        EDGES.refused(1, "tray 4", x -> x.read(4, 0));
        EDGES.refused(1, "1 ahead of 4", x -> x.read(-1, 99));
        EDGES.refused(3, "MISSING", x -> x.read(2, 0));
        EDGES.refused(3, "3 ahead of 4", x -> x.read(2, -1));
        EDGES.refused(4, "place -1", x -> x.read(0, -1));
        EDGES.refused(4, "just behind the last place", x -> x.read(0, 5));
        EDGES.refused(4, "60 of a smaller TRAY", x -> x.read(0, 59));
        for (int far : Edges.FAR_OFF) {
            EDGES.refused(1, "tray " + far, x -> x.read(far, 0));
            EDGES.refused(4, "place " + far, x -> x.read(0, far));
        }
    }

    private static void row(OneSeat x, int tray, long... due) {
        for (int k = 0; k < due.length; k++) {
            EDGES.fine(x, "tray " + tray + " place " + k, x.read(tray, k), due[k]);
        }
    }

    private static void pour() {
        EDGES.says(8, "So many numbers from place i on of a TRAY come to place j on of another one");
        OneSeat x = new OneSeat();
        x.tray(0, 3, 3);
        x.tray(1, 3, 4);
        for (int k = 0; k < 3; k++) {
            x.write(0, k, k - 2);
            x.write(1, k, 50 + k);
        }
        EDGES.fine(x, "up to the last place", x.pour(0, 1, 1, 2, 2));
        row(x, 1, 50, 51, -1, 0);
        EDGES.fine(x, "from the first to the first", x.pour(0, 0, 1, 0, 1));
        row(x, 1, -2, 51, -1, 0);
        row(x, 0, -2, -1, 0);
        EDGES.fine(x, "no numbers", x.pour(0, 2, 1, 3, 0));
        row(x, 1, -2, 51, -1, 0);
        EDGES.says(8, "at most 60");
        x.tray(2, 0, 60);
        x.tray(3, 0, 60);
        for (int k = 0; k < 60; k++) {
            x.write(2, k, k + 1);
        }
        EDGES.fine(x, "60 numbers", x.pour(2, 0, 3, 0, 60));
        for (int k = 0; k < 60; k++) {
            EDGES.fine(x, "number " + k, x.read(3, k), k + 1);
        }
    }

    private static void pourWithin() {
        EDGES.says(8, "or the same, as they were");
        long[][] due = {{1, 1, 2, 3, 5}, {2, 3, 4, 4, 5}, {1, 2, 1, 2, 3}, {1, 2, 3, 4, 5}};
        int[][] by = {{0, 1, 3}, {1, 0, 3}, {0, 2, 3}, {0, 0, 5}};
        for (int k = 0; k < by.length; k++) {
            OneSeat x = new OneSeat();
            x.tray(1, 2, 5);
            for (int place = 0; place < 5; place++) {
                x.write(1, place, place + 1);
            }
            EDGES.fine(x, "onto itself " + k, x.pour(1, by[k][0], 1, by[k][1], by[k][2]));
            row(x, 1, due[k]);
        }
    }

    private static void pourStatuses() {
        EDGES.says(8, "1, 3 (either), 11, 6, 4, asked in this order.");
        EDGES.denied(1, "1 from", x -> x.pour(4, 0, 0, 0, 1));
        EDGES.denied(1, "1 from below", x -> x.pour(-1, 0, 0, 0, 1));
        EDGES.denied(1, "1 to", x -> x.pour(0, 0, 4, 0, 1));
        EDGES.denied(1, "1 to below", x -> x.pour(0, 0, -1, 0, 1));
        EDGES.denied(1, "1 to ahead of 3 from", x -> x.pour(2, 0, 4, 0, 1));
        EDGES.denied(1, "1 from ahead of 3 to", x -> x.pour(4, 0, 2, 0, 1));
        EDGES.denied(1, "1 ahead of 6", x -> x.pour(0, 0, 4, 0, -1));
        EDGES.denied(1, "1 ahead of 4", x -> x.pour(4, -1, 0, -1, 1));
        EDGES.denied(3, "3 from", x -> x.pour(2, 0, 0, 0, 1));
        EDGES.denied(3, "3 to", x -> x.pour(0, 0, 2, 0, 1));
        EDGES.denied(3, "3 both", x -> x.pour(2, 0, 2, 0, 0));
        EDGES.denied(3, "3 ahead of 6", x -> x.pour(0, 0, 2, 0, -1));
        EDGES.denied(3, "3 ahead of 4", x -> x.pour(2, -1, 0, 99, 1));
        EDGES.denied(11, "11", x -> x.pour(0, 0, 1, 0, 1));
        EDGES.denied(11, "11 the other way", x -> x.pour(1, 0, 0, 0, 1));
        EDGES.denied(11, "11 of no numbers", x -> x.pour(1, 0, 0, 0, 0));
        EDGES.denied(11, "11 ahead of 6", x -> x.pour(0, 0, 1, 0, -1));
        EDGES.denied(11, "11 ahead of 4", x -> x.pour(0, -1, 1, 99, 1));
        EDGES.denied(6, "6", x -> x.pour(0, 0, 3, 0, -1));
        EDGES.denied(6, "6 far below", x -> x.pour(0, 0, 3, 0, Integer.MIN_VALUE));
        EDGES.denied(6, "6 ahead of 4", x -> x.pour(0, -1, 3, 99, -1));
        for (int far : Edges.FAR_OFF) {
            EDGES.denied(1, "from " + far, x -> x.pour(far, 0, 0, 0, 1));
            EDGES.denied(1, "to " + far, x -> x.pour(0, 0, far, 0, 1));
        }
    }

    private static void pourPlaces() {
        EDGES.says(8, "4 a place that the TRAY has not, or too few numbers.");
        EDGES.denied(4, "from place -1", x -> x.pour(0, -1, 3, 0, 1));
        EDGES.denied(4, "to place -1", x -> x.pour(0, 0, 3, -1, 1));
        EDGES.denied(4, "from just behind the last", x -> x.pour(0, 5, 3, 0, 1));
        EDGES.denied(4, "to just behind the last", x -> x.pour(0, 0, 3, 4, 1));
        EDGES.denied(4, "one too few there", x -> x.pour(0, 1, 3, 0, 5));
        EDGES.denied(4, "one place too few", x -> x.pour(0, 0, 3, 0, 5));
        EDGES.denied(4, "one place too few further on", x -> x.pour(0, 0, 3, 2, 3));
        EDGES.denied(4, "within one TRAY", x -> x.pour(0, 0, 0, 1, 5));
        EDGES.denied(4, "far too many", x -> x.pour(0, 0, 3, 0, Integer.MAX_VALUE));
        EDGES.denied(4, "place and number wrap around", x -> x.pour(0, 2, 3, 2, Integer.MAX_VALUE - 1));
        for (int far : Edges.FAR_OFF) {
            EDGES.denied(4, "from place " + far, x -> x.pour(0, far, 3, 0, 1));
            EDGES.denied(4, "to place " + far, x -> x.pour(0, 0, 3, far, 1));
            EDGES.denied(4, "from place " + far + ", far too many", x -> x.pour(0, far, 3, 0, Integer.MAX_VALUE));
        }
    }
}
