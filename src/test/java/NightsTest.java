/** Promises 19 to 25: NIGHTS by hand and by LOT, the BOOK, what it tells. */
public final class NightsTest {
    private static final Check CHECK = new Check();

    public static void main(String[] args) {
        promise19();
        promise19curtain();
        promise19order();
        promise20();
        promise21();
        promise21latestTwenty();
        promise22();
        promises23and24();
        promise25();
        CHECK.finish();
    }

    private static void night(OneSeat x, String deeds, int seen, int ending, int breaths) {
        CHECK.due(x, "night " + deeds, Check.night(x, deeds), seen, 0);
        CHECK.due(x, "its SEEN " + deeds, x.book(0, 0), seen, 0);
        CHECK.due(x, "its ENDING " + deeds, x.book(0, 1), ending, 0);
        CHECK.due(x, "by hand no KIND " + deeds, x.book(0, 2), -1, 0);
        CHECK.due(x, "its BREATHS " + deeds, x.book(0, 3), breaths, 0);
    }

    private static void promise19() {
        OneSeat x = Check.with(Check.HOUSE);
        night(x, "", 14, 2, 19);
        night(x, "0", 14, 2, 19);
        night(x, "3", 14, 2, 19);
        night(x, "1", 10, 2, 13);
        night(x, "2", 9, 1, 10);
        night(x, "01", 12, -1, 14);
        night(x, "32", 12, -1, 14);
        night(x, "03", 14, 2, 19);
        night(x, "222222222222", 9, 1, 10);
        x.tray(3, 3, 2);
        x.write(3, 0, 2);
        x.write(3, 1, 1);
        CHECK.due(x, "the first so many", x.night(3, 0), 14, 0);
        CHECK.due(x, "the first so many", x.night(3, 1), 9, 0);
    }

    private static void promise19curtain() {
        OneSeat x = Check.with(Check.HOUSE);
        x.bar(0, true);
        night(x, "2", 8, 3, 8);
        x.bar(0, false);
        x.bar(2, true);
        night(x, "0", 8, 3, 8);
        night(x, "1", 10, 2, 13);
        x.bar(2, false);
        x.kill(0, true);
        night(x, "2", 8, 3, 8);
        night(x, "0", 8, 3, 8);
        x.kill(0, false);
        night(x, "0", 14, 2, 19);
        OneSeat y = Check.with("role a; scene last lines 1 with a ends 1; scene fin lines 2 ends 2 then last;"
            + "scene own lines 3 with a ends 3 then fin laugh last kills a;");
        night(y, "", 6, 2, 3);
        night(y, "2", 4, 3, 3);
        OneSeat twice = Check.with("role a; scene e lines 1 with a; scene f lines 1 then e kills a; scene g lines 1 then f kills a;");
        night(twice, "", 6, -1, 0);
        OneSeat z = Check.with("scene a lines 1 ends 0; scene b lines 1 tear a; scene c lines 1 sleep b;");
        night(z, "", 4, -1, 0);
        night(z, "3", 6, -1, 0);
        night(z, "31", 7, 0, 0);
        night(z, "33", 6, -1, 0);
    }

    private static void promise19order() {
        OneSeat x = Check.with(Check.HOUSE);
        x.tray(0, 0, 3);
        x.write(0, 0, 4);
        CHECK.due(x, "night(4, 99)", x.night(4, 99), -1, 1);
        CHECK.due(x, "night(-1, 0)", x.night(-1, 0), -1, 1);
        CHECK.due(x, "night(1, 99)", x.night(1, 99), -1, 3);
        CHECK.due(x, "night(0, 13)", x.night(0, 13), -1, 5);
        CHECK.due(x, "night(0, -1)", x.night(0, -1), -1, 5);
        CHECK.due(x, "night(0, 4)", x.night(0, 4), -1, 4);
        x.bar(3, true);
        CHECK.due(x, "night(0, 1): 4", x.night(0, 1), -1, 5);
        x.write(0, 0, -1);
        CHECK.due(x, "night(0, 1): -1", x.night(0, 1), -1, 5);
        x.write(0, 0, 0);
        x.write(0, 2, 9);
        CHECK.due(x, "night(0, 3): a later number", x.night(0, 3), -1, 5);
        CHECK.due(x, "night(0, 2): BARRED", x.night(0, 2), -1, 9);
        x.bar(3, false);
        x.kill(2, true);
        CHECK.due(x, "night(0, 0): DEAD", x.night(0, 0), -1, 9);
        CHECK.due(x, "no NIGHT came", x.many(4), 0, 0);
        OneSeat y = new OneSeat();
        y.tray(0, 0, 3);
        CHECK.due(y, "no SCENE", y.night(0, 0), -1, 9);
    }

    private static void promise20() {
        OneSeat x = Check.with(Check.HOUSE);
        int[][] due = {{1, 9, 1, 10}, {1, 9, 1, 10}, {0, 9, 1, 10}, {1, 9, 1, 10}, {1, 14, 2, 19}, {0, 12, -1, 14}, {1, 14, 2, 19},
            {1, 12, -1, 14}, {1, 9, 1, 10}, {0, 9, 1, 10}, {1, 9, 1, 10}, {1, 14, 2, 19}, {0, 12, -1, 14}, {1, 14, 2, 19}};
        for (int seed = 0; seed < due.length; seed++) {
            CHECK.due(x, "lot " + seed, x.lot(seed), due[seed][0], 0);
            CHECK.due(x, "its SEEN " + seed, x.book(0, 0), due[seed][1], 0);
            CHECK.due(x, "its ENDING " + seed, x.book(0, 1), due[seed][2], 0);
            CHECK.due(x, "its KIND " + seed, x.book(0, 2), due[seed][0], 0);
            CHECK.due(x, "its BREATHS " + seed, x.book(0, 3), due[seed][3], 0);
        }
        CHECK.due(x, "lot 9999", x.lot(9999) >= 0, true, 0);
        CHECK.due(x, "lot(-1)", x.lot(-1), -1, 5);
        CHECK.due(x, "lot(10000)", x.lot(10000), -1, 5);
        x.bar(3, true);
        CHECK.due(x, "lot: BARRED", x.lot(0), -1, 9);
        CHECK.due(x, "lot(-1): BARRED", x.lot(-1), -1, 5);
        // the draws by 10 of seeds 0 to 9 are 8, 1, 4, 7, 9, 2, 5, 8, 1, 4
        OneSeat three = Check.with("scene a lines 1; kind k lots 2 tears 0 laughs 0 sleeps 0; kind l lots 3 tears 0 laughs 0 sleeps 0;"
            + "kind m lots 5 tears 0 laughs 0 sleeps 0;");
        int[] kinds = {2, 0, 1, 2, 2, 1, 2, 2, 0, 1};
        for (int seed = 0; seed < kinds.length; seed++) {
            CHECK.due(three, "lot of three KINDS " + seed, three.lot(seed), kinds[seed], 0);
        }
        OneSeat y = Check.with("scene a lines 1;");
        CHECK.due(y, "lot(-1): no KINDS", y.lot(-1), -1, 5);
        CHECK.due(y, "lot: no KINDS", y.lot(0), -1, 8);
        y.bar(0, true);
        CHECK.due(y, "lot: no KINDS, BARRED", y.lot(0), -1, 8);
        OneSeat z = Check.with("kind k lots 1 tears 0 laughs 0 sleeps 0;");
        CHECK.due(z, "lot: no SCENES", z.lot(0), -1, 9);
    }

    private static void promise21() {
        OneSeat x = Check.with(Check.HOUSE);
        Check.night(x, "1");
        x.lot(5);
        CHECK.due(x, "book(0, 0)", x.book(0, 0), 12, 0);
        CHECK.due(x, "book(0, 1)", x.book(0, 1), -1, 0);
        CHECK.due(x, "book(0, 2)", x.book(0, 2), 0, 0);
        CHECK.due(x, "book(0, 3)", x.book(0, 3), 14, 0);
        CHECK.due(x, "book(1, 0)", x.book(1, 0), 10, 0);
        CHECK.due(x, "book(1, 2)", x.book(1, 2), -1, 0);
        CHECK.due(x, "book(2, 0)", x.book(2, 0), -1, 8);
        CHECK.due(x, "book(-1, 0)", x.book(-1, 0), -1, 8);
        CHECK.due(x, "book(2, 4)", x.book(2, 4), -1, 5);
        CHECK.due(x, "book(0, -1)", x.book(0, -1), -1, 5);
    }

    private static void promise21latestTwenty() {
        OneSeat x = Check.with(Check.HOUSE);
        Check.night(x, "2");
        for (int k = 0; k < 19; k++) {
            Check.night(x, "1");
        }
        CHECK.due(x, "twenty", x.many(4), 20, 0);
        CHECK.due(x, "the oldest", x.book(19, 0), 9, 0);
        CHECK.due(x, "HEARD low", x.heard(0), 1, 0);
        Check.night(x, "");
        CHECK.due(x, "twenty still", x.many(4), 20, 0);
        CHECK.due(x, "the latest", x.book(0, 0), 14, 0);
        CHECK.due(x, "the oldest now", x.book(19, 0), 10, 0);
        CHECK.due(x, "none more", x.book(20, 0), -1, 8);
        CHECK.due(x, "HEARD low no more", x.heard(0), 0, 0);
        CHECK.due(x, "UNSEEN low again", x.unseen(), 1, 0);
    }

    private static void promise22() {
        OneSeat x = Check.with(Check.HOUSE);
        CHECK.due(x, "all", x.unseen(), 15, 0);
        Check.night(x, "1");
        CHECK.due(x, "low, turn", x.unseen(), 5, 0);
        Check.night(x, "01");
        CHECK.due(x, "low", x.unseen(), 1, 0);
        Check.night(x, "2");
        CHECK.due(x, "none", x.unseen(), 0, 0);
    }

    private static void promises23and24() {
        OneSeat x = Check.with(Check.HOUSE);
        int[] led = {0, 0, 1, 1, 1, 1, 1, 2, 2, 2, 3, 3, 3, 3};
        int[] heard = {1, 2, 2, 4};
        Check.night(x, "1");
        Check.night(x, "01");
        Check.night(x, "2");
        Check.night(x, "");
        for (int line = 0; line < led.length; line++) {
            CHECK.due(x, "led " + line, x.led(line), led[line], 0);
            CHECK.due(x, "heard " + line, x.heard(line), heard[led[line]], 0);
        }
        CHECK.due(x, "led(14)", x.led(14), -1, 5);
        CHECK.due(x, "led(-1)", x.led(-1), -1, 5);
        CHECK.due(x, "heard(14)", x.heard(14), -1, 5);
        CHECK.due(x, "heard(-1)", x.heard(-1), -1, 5);
        CHECK.due(x, "led(MIN)", x.led(Integer.MIN_VALUE), -1, 5);
    }

    private static void promise25() {
        OneSeat x = Check.with(Check.HOUSE);
        CHECK.due(x, "no NIGHT", x.suspects(2), -1, 8);
        Check.night(x, "1");
        CHECK.due(x, "first, side: b", x.suspects(2), 2, 0);
        Check.night(x, "");
        CHECK.due(x, "first, turn, side: b", x.suspects(2), 2, 0);
        Check.night(x, "2");
        CHECK.due(x, "first, low: nobody", x.suspects(1), 0, 0);
        Check.night(x, "01");
        CHECK.due(x, "without an ENDING none", x.suspects(3), -1, 8);
        x.bar(0, true);
        Check.night(x, "2");
        CHECK.due(x, "first: b, c", x.suspects(3), 6, 0);
        CHECK.due(x, "suspects(9)", x.suspects(9), -1, 5);
        CHECK.due(x, "suspects(-1)", x.suspects(-1), -1, 5);
    }
}
