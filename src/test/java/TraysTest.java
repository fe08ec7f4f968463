/** Promises 1 to 8: a new object, STATUS, FRACTION, TRAYS. */
public final class TraysTest {
    private static final Check CHECK = new Check();

    public static void main(String[] args) {
        promise1();
        promises2to4();
        promise5();
        promises6and7();
        promise8();
        promise8order();
        CHECK.finish();
    }

    private static void promise1() {
        OneSeat x = new OneSeat();
        CHECK.due("new: status", x.status(), 0);
        CHECK.due("new: top", x.top(), 0);
        CHECK.due("new: bottom", x.bottom(), 1);
        CHECK.due("new: fault(0)", x.fault(0), -1);
        CHECK.due("new: fault(1)", x.fault(1), -1);
        for (int what = 0; what <= 7; what++) {
            CHECK.due(x, "new: many " + what, x.many(what), 0, 0);
        }
        for (int tray = 0; tray < 4; tray++) {
            CHECK.due(x, "new: read", x.read(tray, 0), -1, 3);
        }
        CHECK.due(x, "new: run", x.run(0), -1, 8);
        CHECK.due(x, "new: back", x.back(), -1, 8);
        CHECK.due(x, "new: book", x.book(0, 0), -1, 8);
        CHECK.due(x, "new: stage(1)", x.stage(1), -1, 5);
        CHECK.due("new: feed", x.feed(0, 0, 0, 0, 0), 20);
        CHECK.due("NONE", OneSeat.NONE, -1);
    }

    private static void promises2to4() {
        OneSeat x = Check.with("scene a lines 1; kind k lots 1 tears 4 laughs 0 sleeps 0;");
        x.many(9);
        CHECK.due("status of the latest", x.status(), 5);
        x.fault(0);
        x.feed(0, 0, 0, 0, 0);
        x.top();
        x.bottom();
        x.status();
        CHECK.due("status of those that have none", x.status(), 5);
        CHECK.told(x, "odds(9, 0)", x.odds(9, 0), 1, 1);
        CHECK.due(x, "odds(10, 0)", x.odds(10, 0), false, 5);
        CHECK.due("the FRACTION stays: top", x.top(), 1);
        CHECK.due("the FRACTION stays: bottom", x.bottom(), 1);
        CHECK.told(x, "odds(0, 0)", x.odds(0, 0), 0, 1);
    }

    private static void promise5() {
        OneSeat x = new OneSeat();
        CHECK.due(x, "tray(-1, 0, 1)", x.tray(-1, 0, 1), false, 1);
        CHECK.due(x, "tray(4, 0, 1)", x.tray(4, 0, 1), false, 1);
        CHECK.due(x, "tray(0, -1, 1)", x.tray(0, -1, 1), false, 1);
        CHECK.due(x, "tray(0, 4, 61)", x.tray(0, 4, 61), false, 1);
        CHECK.due(x, "tray(0, 0, 61)", x.tray(0, 0, 61), false, 5);
        CHECK.due(x, "tray(0, 0, -1)", x.tray(0, 0, -1), false, 6);
        CHECK.due(x, "still MISSING", x.read(0, 0), -1, 3);
        CHECK.due(x, "tray(0, 0, 60)", x.tray(0, 0, 60), true, 0);
        CHECK.due(x, "write(0, 59, 7)", x.write(0, 59, 7), true, 0);
        CHECK.due(x, "read(0, 59)", x.read(0, 59), 7, 0);
        CHECK.due(x, "tray(0, 0, 61) again", x.tray(0, 0, 61), false, 5);
        CHECK.due(x, "it stays", x.read(0, 59), 7, 0);
        CHECK.due(x, "tray(0, 3, 60) anew", x.tray(0, 3, 60), true, 0);
        CHECK.due(x, "all 0", x.read(0, 59), 0, 0);
        CHECK.due(x, "tray(3, 3, 0)", x.tray(3, 3, 0), true, 0);
        CHECK.due(x, "no place, but there", x.read(3, 0), -1, 4);
    }

    private static void promises6and7() {
        OneSeat x = new OneSeat();
        long[] cut = {0, 0, 0x56787fa3L, 0x1234567856787fa3L};
        long[] wide = {0x12345678567800a3L, 0x123456785678ffa3L, 0x1234567856787fa3L, 0x1234567856787fa3L};
        cut[0] = (byte) 0xa3;
        cut[1] = (short) 0xffa3;
        for (int sort = 0; sort < 4; sort++) {
            CHECK.due(x, "tray", x.tray(sort, sort, 2), true, 0);
            CHECK.due(x, "write", x.write(sort, 1, wide[sort]), true, 0);
            CHECK.due(x, "read cut to sort " + sort, x.read(sort, 1), cut[sort], 0);
            CHECK.due(x, "read beside", x.read(sort, 0), 0, 0);
        }
        x.write(2, 0, 0x80000000L);
        CHECK.due(x, "32 bits with sign", x.read(2, 0), -0x80000000L, 0);
        x.write(3, 0, -1);
        CHECK.due(x, "-1, not NONE", x.read(3, 0), -1, 0);
        CHECK.due(x, "read(-1, 0)", x.read(-1, 0), -1, 1);
        CHECK.due(x, "read(4, 0)", x.read(4, 0), -1, 1);
        CHECK.due(x, "read(0, 2)", x.read(0, 2), -1, 4);
        CHECK.due(x, "read(0, -1)", x.read(0, -1), -1, 4);
        CHECK.due(x, "write(4, 9, 0)", x.write(4, 9, 0), false, 1);
        CHECK.due(x, "write(0, 2, 0)", x.write(0, 2, 0), false, 4);
        CHECK.due(x, "write(0, MIN, 0)", x.write(0, Integer.MIN_VALUE, 0), false, 4);
        OneSeat y = new OneSeat();
        CHECK.due(y, "write where MISSING", y.write(0, 99, 0), false, 3);
    }

    private static void promise8() {
        OneSeat x = new OneSeat();
        x.tray(0, 1, 5);
        x.tray(1, 1, 3);
        for (int k = 0; k < 5; k++) {
            x.write(0, k, 10 + k);
        }
        CHECK.due(x, "pour(0, 1, 1, 0, 3)", x.pour(0, 1, 1, 0, 3), true, 0);
        for (int k = 0; k < 3; k++) {
            CHECK.due(x, "poured", x.read(1, k), 11 + k, 0);
        }
        CHECK.due(x, "onto itself, up", x.pour(0, 0, 0, 1, 4), true, 0);
        long[] up = {10, 10, 11, 12, 13};
        for (int k = 0; k < 5; k++) {
            CHECK.due(x, "as they were, up", x.read(0, k), up[k], 0);
        }
        CHECK.due(x, "onto itself, down", x.pour(0, 1, 0, 0, 4), true, 0);
        long[] down = {10, 11, 12, 13, 13};
        for (int k = 0; k < 5; k++) {
            CHECK.due(x, "as they were, down", x.read(0, k), down[k], 0);
        }
        CHECK.due(x, "none at all", x.pour(0, 5, 1, 3, 0), true, 0);
        CHECK.due(x, "none from no place", x.pour(0, 6, 1, 0, 0), false, 4);
        CHECK.due(x, "none from below 0", x.pour(0, -1, 1, 0, 0), false, 4);
        CHECK.due(x, "too few from", x.pour(0, 3, 1, 0, 3), false, 4);
        CHECK.due(x, "too few to", x.pour(0, 0, 1, 1, 3), false, 4);
        CHECK.due(x, "far too many", x.pour(0, 1, 1, 1, Integer.MAX_VALUE), false, 4);
        CHECK.due(x, "from far off", x.pour(0, Integer.MAX_VALUE, 1, 0, 1), false, 4);
        CHECK.due(x, "nothing came", x.read(1, 1), 12, 0);
    }

    private static void promise8order() {
        OneSeat x = new OneSeat();
        x.tray(0, 1, 5);
        x.tray(1, 2, 3);
        x.tray(2, 1, 3);
        CHECK.due(x, "1 ahead of 3", x.pour(3, 0, 4, 0, 1), false, 1);
        CHECK.due(x, "1 of the first", x.pour(-1, 0, 0, 0, 1), false, 1);
        CHECK.due(x, "3 from", x.pour(3, 0, 0, 0, -1), false, 3);
        CHECK.due(x, "3 to", x.pour(0, 0, 3, 0, -1), false, 3);
        CHECK.due(x, "11 ahead of 6", x.pour(0, 0, 1, 0, -1), false, 11);
        CHECK.due(x, "6 ahead of 4", x.pour(0, 9, 2, 9, -1), false, 6);
    }
}
