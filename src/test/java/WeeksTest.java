/** Promises 41 to 43: RUNS of a WEEK. */
public final class WeeksTest {
    private static final Check CHECK = new Check();
    /** KINDS without a chance: nod does nothing (first turn side), cry sheds TEARS (first side), ha LAUGHS (first low). */
    private static final String SURE = Check.HOUSE + "kind nod lots 1 tears 0 laughs 0 sleeps 0;"
        + "kind cry lots 1 tears 16 laughs 0 sleeps 0;";
    private static final String FEW = Check.HOUSE.substring(0, Check.HOUSE.indexOf("kind")) + "kind nod lots 1 tears 0 laughs 0 sleeps 0;"
        + "kind cry lots 1 tears 16 laughs 0 sleeps 0; kind ha lots 1 tears 0 laughs 16 sleeps 0;";

    public static void main(String[] args) {
        promise41();
        promise41draws();
        promise41stageIsAgain();
        tests();
        loops();
        limits();
        promise42();
        promise43();
        promise43keeps();
        CHECK.finish();
    }

    private static OneSeat with(String stage, String week) {
        OneSeat x = Check.with(stage);
        if (Check.week(x, week) == -1) {
            throw new IllegalStateException("fault " + x.fault(0) + " at " + x.fault(1) + ": " + week);
        }
        return x;
    }

    /** What run() and ran() tell. */
    private static void run(OneSeat x, String week, int seed, int nights, int... ran) {
        CHECK.due(x, "run " + week, x.run(seed), nights, 0);
        for (int what = 0; what < ran.length; what++) {
            CHECK.due(x, "ran " + what + " " + week, x.ran(what), ran[what], 0);
        }
    }

    private static void week(String week, int nights, int... ran) {
        run(with(FEW, week), week, 0, nights, ran);
    }

    private static void promise41() {
        OneSeat x = with(FEW, "play nod; play cry; play ha;");
        run(x, "three", 9999, 3, 3, 15, 6, 42, 0);
        int[] seen = {9, 10, 14};
        int[] kinds = {2, 1, 0};
        for (int k = 0; k < 3; k++) {
            CHECK.due(x, "the BOOK has it", x.book(k, 0), seen[k], 0);
            CHECK.due(x, "its KIND", x.book(k, 2), kinds[k], 0);
        }
        CHECK.due(x, "run(-1)", x.run(-1), -1, 5);
        CHECK.due(x, "run(10000)", x.run(10000), -1, 5);
        OneSeat y = Check.with(FEW);
        CHECK.due(y, "no WEEK", y.run(0), -1, 8);
        CHECK.due(y, "no WEEK, 5", y.run(-1), -1, 5);
        CHECK.due(y, "none ran", y.ran(0), -1, 8);
        week("", 0, 0, 0, 0, 0, 0);
        OneSeat z = with(FEW, "play cry; when seen low; stop; end; play ha; bar first; play;");
        run(z, "once", 0, 2, 5, 11, 6, 23, 1);
        run(z, "a second time", 0, 2, 5, 11, 6, 23, 1);
    }

    private static void promise41draws() {
        OneSeat x = with(Check.HOUSE, "play; play; play one; play;");
        int[] seeds = {0, 1, 2, 3, 7, 9999};
        int[][] rows = {{9, 9, 9, 9}, {9, 9, 14, 9}, {9, 14, 9, 9}, {9, 9, 9, 9}, {12, 9, 14, 14}, {9, 9, 10, 12}};
        int[][] kinds = {{1, 1, 0, 1}, {1, 1, 0, 1}, {0, 1, 0, 1}, {1, 1, 0, 1}, {1, 1, 0, 1}, {1, 1, 0, 1}};
        for (int s = 0; s < seeds.length; s++) {
            CHECK.due(x, "run " + seeds[s], x.run(seeds[s]), 4, 0);
            for (int k = 0; k < 4; k++) {
                CHECK.due(x, "seed " + seeds[s] + " NIGHT " + k, x.book(3 - k, 0), rows[s][k], 0);
                CHECK.due(x, "seed " + seeds[s] + " KIND " + k, x.book(3 - k, 2), kinds[s][k], 0);
            }
        }
        // what can't be played takes no draw
        OneSeat y = with(Check.HOUSE, "buy c; play; play one; spare c; play; bar first; play; open first; play; play one; play;");
        CHECK.due(y, "run 7", y.run(7), 4, 0);
        CHECK.due(y, "not played", y.ran(4), 3, 0);
        for (int k = 0; k < 4; k++) {
            CHECK.due(y, "as without them " + k, y.book(3 - k, 0), rows[4][k], 0);
        }
    }

    private static void promise41stageIsAgain() {
        OneSeat x = with(FEW, "bar side; buy a; spare b; open low; play nod; play cry;");
        x.bar(0, true);
        x.kill(1, true);
        run(x, "from the STAGE as it is", 0, 2, 6, 8, 8, 16, 0);
        CHECK.due(x, "BARRED is so again", x.many(5), 1, 0);
        CHECK.due(x, "DEAD is so again", x.many(6), 2, 0);
        run(x, "again", 0, 2, 6, 8, 8, 16, 0);
        CHECK.due(x, "the BOOK has its NIGHTS", x.many(4), 4, 0);
        OneSeat y = with("role a; scene s lines 1 with a;", "play; play;");
        run(y, "without KINDS", 0, 0, 2, 0, 0, 0, 2);
    }

    private static void tests() {
        week("when ended 9; play nod; end;", 0, 1, 0);
        week("when ended 0; play nod; end;", 0, 1, 0);
        week("play ha; when ended 1; play nod; end; when ended 1; play nod; end;", 2, 4, 15, 6, 29, 0);
        week("play nod; when ended 9; play ha; end; bar side; play nod; when ended 9; play ha; end;", 3, 6, 15, 518, 43, 0);
        week("when seen low; stop; end; play ha; when seen low; stop; end; play nod;", 1, 4, 9);
        week("when dead a; play nod; end; buy a; when dead a; play ha; end; spare a; when dead a; play nod; end;", 1, 6, 8, 8, 8, 0);
        week("when nights = 0; play ha; end; when nights = 0; play nod; end; when nights = 1; play cry; end;", 2, 5, 11);
        week("play ha; when nights < 1; play nod; end; when nights < 2; play cry; end;", 2, 4, 11);
        week("play ha; when nights > 1; play nod; end; when nights > 0; play cry; end;", 2, 4, 11);
        // KILLED in a NIGHT is not DEAD; what can't be played is no NIGHT
        week("play nod; when dead a; stop; end; bar first; play; when nights > 1; stop; end; play;", 1, 6, 14, 4, 19, 2);
        OneSeat x = with(FEW, "when seen low; play nod; end; when ended 1; play nod; end; when nights > 0; play nod; end;");
        Check.night(x, "2");
        run(x, "of this WEEK alone", 0, 0, 3, 0, 0, 0, 0);
    }

    private static void loops() {
        week("loop 3; play ha; end; play nod;", 4, 5, 15);
        week("loop 2; loop 3; play ha; end; play nod; end;", 8, 11, 15);
        week("loop 2; end; loop 1; play nod; end;", 1, 3, 14);
        week("loop 3; when nights < 2; play nod; end; end;", 2, 6, 14);
        week("loop 9; play nod; when nights = 4; stop; end; end; play ha;", 4, 10, 14);
        week("loop 2; when nights < 9; loop 2; play nod; end; end; end;", 4, 9, 14);
        week("loop 99; play nod; end;", 99, 100, 14);
    }

    private static void limits() {
        week("loop 99; play nod; play nod; play nod; end;", 199, 200, 14);
        week("loop 99; when nights < 0; play nod; end; end;", 0, 100, 0);
        week("loop 99; when nights < 99; play nod; end; end; play ha; play ha;", 100, 200, 15);
        week("loop 99; when nights > 98; play nod; end; end; play ha;", 1, 101, 9);
        week("loop 99; loop 99; end; end; play ha;", 1, 101, 9);
        week("loop 99; loop 99; loop 99; end; end; end; play ha;", 0, 200, 0);
        week("loop 99; loop 1; end; end; loop 99; play ha; end;", 99, 200, 9);
        week("loop 99; loop 1; end; end; loop 99; play ha; end; play nod;", 99, 200, 9);
        OneSeat x = with(FEW, "buy a; loop 99; play cry; end; loop 99; play cry; end; play cry; buy b;");
        run(x, "the last STEPS are not done", 0, 197, 200, 10, 4, 197 * 13, 0);
    }

    private static void promise42() {
        OneSeat x = Check.with(FEW);
        for (int what = 0; what <= 4; what++) {
            CHECK.due(x, "none ran " + what, x.ran(what), -1, 8);
        }
        CHECK.due(x, "ran(5)", x.ran(5), -1, 5);
        CHECK.due(x, "ran(-1)", x.ran(-1), -1, 5);
        Check.week(x, "play ha; bar first; play;");
        CHECK.due(x, "often is no run()", x.often(1, 0, 1), true, 0);
        CHECK.due(x, "none ran", x.ran(0), -1, 8);
        run(x, "ha", 1, 1, 3, 9, 2, 10, 1);
        x.run(-1);
        Check.week(x, "play nod;");
        x.often(1, 0, 20);
        int[] stays = {3, 9, 2, 10, 1};
        x.stage(0);
        x.run(0);
        for (int what = 0; what <= 4; what++) {
            CHECK.due(x, "run() latest with 0: " + what, x.ran(what), stays[what], 0);
        }
    }

    private static void promise43() {
        OneSeat x = with(Check.HOUSE, "play;");
        // of seeds 0 to 13: 1 at 0, 1, 2, 3, 8, 9, 10; 2 at 4, 6, 11, 13; none at 5, 7, 12
        CHECK.told(x, "ENDING 1", x.often(1, 0, 14), 1, 2);
        CHECK.told(x, "ENDING 2", x.often(2, 0, 14), 2, 7);
        CHECK.told(x, "none", x.often(9, 0, 14), 3, 14);
        CHECK.told(x, "from 4 on", x.often(2, 4, 4), 1, 2);
        CHECK.told(x, "one seed", x.often(9, 5, 1), 1, 1);
        CHECK.told(x, "not at all", x.often(8, 0, 20), 0, 1);
        CHECK.due(x, "the last one", x.often(1, 9980, 20), true, 0);
        CHECK.due(x, "often(10, ..)", x.often(10, 0, 1), false, 5);
        CHECK.due(x, "often(-1, ..)", x.often(-1, 0, 1), false, 5);
        CHECK.due(x, "many 0", x.often(1, 0, 0), false, 5);
        CHECK.due(x, "many 21", x.often(1, 0, 21), false, 5);
        CHECK.due(x, "seed -1", x.often(1, -1, 5), false, 5);
        CHECK.due(x, "seed 10000", x.often(1, 10000, 1), false, 5);
        CHECK.due(x, "the last above 9999", x.often(1, 9981, 20), false, 5);
        CHECK.due(x, "far above", x.often(1, Integer.MAX_VALUE, 20), false, 5);
        OneSeat y = Check.with(Check.HOUSE);
        CHECK.due(y, "no WEEK", y.often(1, 0, 1), false, 8);
        CHECK.due(y, "no WEEK, 5", y.often(10, 0, 1), false, 5);
        OneSeat z = with(FEW, "play ha; play nod;");
        CHECK.told(z, "not the latest alone", z.often(1, 0, 3), 1, 1);
    }

    private static void promise43keeps() {
        OneSeat x = with(SURE, "buy a; bar low; play;");
        Check.night(x, "1");
        x.often(3, 0, 20);
        CHECK.due(x, "the BOOK stays", x.many(4), 1, 0);
        CHECK.due(x, "the BOOK's NIGHT stays", x.book(0, 0), 10, 0);
        CHECK.due(x, "BARRED stays", x.many(5), 0, 0);
        CHECK.due(x, "DEAD stays", x.many(6), 0, 0);
    }
}
