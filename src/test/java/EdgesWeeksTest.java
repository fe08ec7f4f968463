/** Boundary cases of promises 41 to 43: RUNS of a WEEK. */
public final class EdgesWeeksTest {
    private static final Edges EDGES = new Edges();
    /** Its KINDS have no choice: nod sees c a (5), cry sees c b (6). p is in a and c, q in b. */
    private static final String STAGE = "role p; role q; scene a lines 2 with p ends 1; scene b lines 3 with q ends 2; scene c lines 4 with p ends 3 then a tear b;"
        + "kind nod lots 1 tears 0 laughs 0 sleeps 0; kind cry lots 1 tears 16 laughs 0 sleeps 0;";

    public static void main(String[] args) {
        runRefused();
        seeds();
        draws();
        notPlayed();
        asItIs();
        bookOfTheRun();
        whenSeen();
        whenDead();
        whenEnded();
        whenNights();
        loops();
        stops();
        twoHundred();
        twoHundredOfLoops();
        ranRefused();
        ran();
        oftenRefused();
        often();
        oftenSeeds();
        oftenKeeps();
        EDGES.finish(41, 43);
    }

    private static OneSeat with(String stage, String week) {
        OneSeat x = Check.with(stage);
        if (Check.week(x, week) < 0) {
            throw new IllegalStateException("fault " + x.fault(0) + " at " + x.fault(1) + ": " + week);
        }
        return x;
    }

    /** What run() and ran() tell: NIGHTS; STEPS, SEEN, ENDINGS, BREATHS, not played. */
    private static void run(OneSeat x, String what, int seed, int nights, int... ran) {
        EDGES.fine(x, what + ": NIGHTS", x.run(seed), nights);
        for (int k = 0; k < ran.length; k++) {
            EDGES.fine(x, what + ": ran " + k, x.ran(k), ran[k]);
        }
    }

    private static void week(String week, int nights, int... ran) {
        run(with(STAGE, week), week, 0, nights, ran);
    }

    private static void runRefused() {
        EDGES.says(41, "RUN by a seed: how many NIGHTS were played (5; 8: no WEEK).");
        EDGES.refused(5, "seed -1", x -> x.run(-1));
        EDGES.refused(5, "seed 10000", x -> x.run(10000));
        for (int far : Edges.FAR_OFF) {
            EDGES.refused(5, "seed " + far, x -> x.run(far));
        }
        Edges.Turn noWeek = Edges.staged(STAGE);
        EDGES.refused(8, "no WEEK", noWeek, x -> x.run(0));
        EDGES.refused(5, "5 ahead of 8", noWeek, x -> x.run(-1));
        EDGES.refused(8, "taken back to no WEEK", x -> {
            x.back();
            x.back();
        }, x -> x.run(0));
        week("", 0, 0, 0, 0, 0, 0);
    }

    private static void seeds() {
        EDGES.says(41, "RUN by a seed (0 to 9,999)");
        OneSeat x = with(STAGE, "play;");
        for (int seed : new int[] {0, 1, 9998, 9999}) {
            int kind = new Draws(seed).among(2, 1, 1);
            run(x, "seed " + seed, seed, 1, 1, kind == 0 ? 5 : 6, kind == 0 ? 2 : 4);
            EDGES.fine(x, "its KIND", x.book(0, 2), kind);
        }
    }

    private static void draws() {
        EDGES.says(41, "play: a NIGHT by LOT, or for a KIND (no draw for that; none at all, if nothing can be played)");
        String stage = "scene a lines 1; scene b lines 1; scene c lines 1; scene d lines 1 then c; scene e lines 1 then d tear a laugh b;"
            + "kind ka lots 3 tears 5 laughs 5 sleeps 0; kind kb lots 2 tears 1 laughs 2 sleeps 13;";
        OneSeat x = with(stage, "play; play kb; bar e; play; play ka; open e; play; play ka; play;");
        int[] told = {-1, 1, -1, 0, -1};
        for (int seed = 0; seed < 12; seed++) {
            run(x, "seed " + seed, seed * 833, 5, 9);
            EDGES.fine(x, "not played", x.ran(4), 2);
            Draws draws = new Draws(seed * 833);
            for (int k = 0; k < 5; k++) {
                int kind = told[k] < 0 ? draws.among(5, 3, 2) : told[k];
                int deed = kind == 0 ? draws.among(16, 5, 5, 0) : draws.among(16, 1, 2, 13);
                int set = deed == 0 ? 17 : deed == 1 ? 18 : 28;
                int more = deed < 2 ? 1 : 2;
                for (int scene = 0; scene < more; scene++) {
                    draws.by(16);
                }
                EDGES.fine(x, "NIGHT " + k + " of seed " + seed + ": KIND", x.book(4 - k, 2), kind);
                EDGES.fine(x, "NIGHT " + k + " of seed " + seed + ": SEEN", x.book(4 - k, 0), set);
            }
        }
    }

    private static void notPlayed() {
        EDGES.says(41, "how many NIGHTS were played");
        week("bar c; play; play nod; open c; buy p; play cry; spare p; play nod;", 1, 8, 5, 2, 6, 3);
        week("bar a; play nod; bar b; play cry; bar c; play cry;", 2, 6, 4, 8, 8, 1);
        OneSeat x = with("role r; kind k lots 1 tears 0 laughs 0 sleeps 0;", "play; play k;");
        run(x, "no SCENES", 0, 0, 2, 0, 0, 0, 2);
        EDGES.fine(x, "no NIGHT is in the BOOK", x.many(4), 0);
    }

    private static void asItIs() {
        EDGES.says(41, "from the STAGE as it is, which is so again behind it, but the BOOK has its NIGHTS.");
        OneSeat x = with(STAGE, "play nod; open a; spare q; play nod; play cry; bar b; buy p; play cry;");
        x.bar(0, true);
        x.kill(1, true);
        for (int k = 1; k <= 2; k++) {
            run(x, "as it is " + k, 5, 3, 8, 7, 14, 17, 1);
            EDGES.fine(x, "BARRED is so again", x.many(5), 1);
            EDGES.fine(x, "DEAD is so again", x.many(6), 2);
            EDGES.fine(x, "the BOOK has its NIGHTS", x.many(4), 3 * k);
        }
        OneSeat y = with(STAGE, "bar c; stop;");
        run(y, "stopped", 0, 0, 2);
        EDGES.fine(y, "so again behind a stop, too", y.many(5), 0);
        OneSeat z = with(STAGE, "buy p; bar b; loop 99; loop 99; end; end; loop 99; play; end;");
        z.bar(1, true);
        run(z, "200 STEPS", 0, 0, 200, 0, 0, 0, 97);
        EDGES.fine(z, "so again behind 200 STEPS: BARRED", z.many(5), 2);
        EDGES.fine(z, "so again behind 200 STEPS: DEAD", z.many(6), 0);
    }

    private static void bookOfTheRun() {
        EDGES.says(41, "The BOOK has the latest 20 NIGHTS (an older one goes for a 21st)");
        OneSeat x = with(STAGE, "play cry; loop 19; play nod; end;");
        Check.night(x, "1");
        run(x, "20 NIGHTS", 0, 20, 21, 7, 6);
        EDGES.fine(x, "the BOOK is full", x.many(4), 20);
        EDGES.fine(x, "the oldest is the first of the WEEK", x.book(19, 2), 1);
        EDGES.fine(x, "the next", x.book(18, 2), 0);
        Check.week(x, "loop 99; play nod; end;");
        run(x, "99 NIGHTS", 0, 99, 100, 5, 2, 99 * 6, 0);
        EDGES.fine(x, "the BOOK is full", x.many(4), 20);
        EDGES.fine(x, "the oldest", x.book(19, 0), 5);
    }

    private static void whenSeen() {
        EDGES.says(41, "when seen: a NIGHT of this WEEK has SEEN it");
        week("when seen c; stop; end; play nod; when seen b; stop; end; when seen c; when seen a; play cry; stop; end; end; play nod;", 2, 7, 7);
        week("play cry; play nod; when seen b; play nod; end;", 3, 4, 7);
        OneSeat x = with(STAGE, "when seen c; play nod; end;");
        Check.night(x, "");
        run(x, "a NIGHT of the BOOK is none of this WEEK", 0, 0, 1, 0);
        OneSeat y = with(STAGE, "when seen c; stop; end; play nod;");
        run(y, "once", 0, 1, 2);
        run(y, "one of the RUN ahead is none of this", 0, 1, 2);
    }

    private static void whenDead() {
        EDGES.says(41, "dead: it is");
        OneSeat x = with(STAGE, "when dead q; play nod; end; spare q; when dead q; play nod; end; buy q; when dead q; play cry; end;");
        run(x, "alive at first", 0, 1, 6, 4, 8);
        x.kill(1, true);
        run(x, "DEAD at first", 0, 2, 7, 5, 10);
        week("play nod; when dead p; play nod; end; buy p; when dead p; play nod; end;", 1, 5, 5, 2, 6, 1);
        OneSeat y = with("role r; scene a lines 1; scene b lines 1 then a kills r; kind k lots 1 tears 0 laughs 0 sleeps 0;", "play k; when dead r; play k; end;");
        run(y, "KILLED in a NIGHT is not DEAD", 0, 1, 2);
    }

    private static void whenEnded() {
        EDGES.says(41, "ended n: the latest NIGHT of this WEEK had that ENDING (9: none; not so ahead of any)");
        for (int ending = 0; ending <= 9; ending++) {
            week("when ended " + ending + "; play nod; end;", 0, 1, 0);
        }
        week("play nod; when ended 1; play cry; end; when ended 1; stop; end; when ended 2; play nod; end;", 3, 6, 7);
        week("play nod; when ended 9; stop; end; bar c; play nod; when ended 9; stop; end; when ended 1; open c; play nod; end;", 2, 8, 5);
        String none = STAGE.replace(" ends 1", "").replace(" ends 2", " ends 0");
        run(with(none, "play nod; when ended 9; play cry; end; when ended 0; play cry; end;"), "none, 0", 0, 3, 5, 7, 513);
        OneSeat x = with(none, "when ended 9; play nod; end; when ended 0; play nod; end;");
        Check.night(x, "");
        Check.night(x, "1");
        run(x, "a NIGHT of the BOOK is none of this WEEK", 0, 0, 2);
    }

    private static void whenNights() {
        EDGES.says(41, "nights: how many there were.");
        week("when nights = 0; play nod; end; when nights = 0; play cry; end; when nights = 1; play nod; end;", 2, 5, 5);
        week("when nights < 0; play nod; end; when nights < 1; play nod; end; when nights < 1; play cry; end;", 1, 4, 5);
        week("when nights > 0; play cry; end; play nod; when nights > 0; play nod; end; when nights > 2; play cry; end;", 2, 5, 5);
        week("loop 98; play nod; end; when nights < 99; play nod; end; when nights < 99; play cry; end; when nights > 98; play nod; end;", 100, 104, 5);
        week("bar c; play; open c; when nights = 0; play nod; end;", 1, 5, 5);
        OneSeat x = with(STAGE, "when nights = 0; play nod; end;");
        Check.night(x, "1");
        run(x, "a NIGHT of the BOOK is none of this WEEK", 0, 1, 2);
        run(x, "nor one of the RUN ahead", 0, 1, 2);
    }

    private static void loops() {
        EDGES.says(41, "loop n: as often.");
        week("loop 1; play nod; end;", 1, 2);
        week("loop 99; play nod; end;", 99, 100);
        week("loop 3; end; play nod;", 1, 2);
        week("loop 2; loop 3; loop 4; play nod; end; end; end;", 24, 1 + 2 + 6 + 24);
        week("loop 4; when nights = 2; play cry; end; play nod; end;", 5, 1 + 4 + 1 + 4, 7);
        week("loop 5; when nights > 2; stop; end; play nod; end; play cry;", 3, 1 + 4 + 3 + 1, 5);
        EDGES.says(41, "when TEST ; {STEP} end ;");
        week("when nights = 9; loop 9; when dead p; play cry; end; play cry; end; end; play nod;", 1, 2, 5);
        week("when nights = 0; when nights = 1; play cry; end; play nod; end; play nod;", 2, 4, 5);
    }

    private static void stops() {
        EDGES.says(41, "stop: no more is done.");
        week("stop;", 0, 1, 0, 0, 0, 0);
        week("play nod; stop; play cry;", 1, 2, 5);
        week("loop 9; loop 9; when nights > 1; stop; end; play nod; end; end; play cry;", 2, 1 + 1 + 3 + 1 + 2, 5);
        OneSeat x = with(STAGE, "stop; play nod;");
        run(x, "a second RUN begins anew", 0, 0, 1);
        run(x, "a second RUN begins anew", 0, 0, 1);
    }

    private static void twoHundred() {
        EDGES.says(41, "At most 200 STEPS (when, loop count as one each time they are come to from ahead; end does not).");
        // 1 + 99 + 1 + 98 are 199
        week("loop 99; play nod; end; loop 98; play nod; end; play cry;", 198, 200, 7);
        week("loop 99; play nod; end; loop 99; play nod; end; play cry;", 198, 200, 5);
        week("loop 99; play nod; end; loop 98; play nod; end; play nod; play cry;", 198, 200, 5);
        week("loop 99; play nod; end; loop 97; play nod; end; play nod; play cry;", 198, 200, 7);
        week("loop 99; play nod; end; loop 97; play nod; end; stop; play cry;", 196, 199, 5);
        week("loop 99; play nod; end; loop 98; play nod; end; when nights > 0; play cry; end;", 197, 200, 5);
        week("loop 99; play nod; end; loop 98; play nod; end; loop 1; play cry; end;", 197, 200, 5);
        week("loop 99; bar c; end; loop 98; play nod; end; open c; play cry;", 0, 200, 0, 0, 0, 98);
        // both of the last two STEPS
        week("loop 66; play nod; play nod; play nod; end; play cry;", 198 + 1, 200, 7);
        week("loop 67; play nod; play nod; play nod; end; play cry;", 199, 200, 5);
    }

    private static void twoHundredOfLoops() {
        EDGES.says(41, "(when, loop count as one each time they are come to from ahead; end does not)");
        week("loop 99; end; play nod;", 1, 2);
        week("loop 99; loop 99; end; end; play nod;", 1, 101);
        week("loop 99; loop 99; loop 99; end; end; end; play nod;", 0, 200);
        week("loop 99; when nights > 0; end; end; play nod;", 1, 101);
        week("loop 99; when nights = 0; loop 99; end; end; end; play nod; play cry;", 1, 200, 5);
        week("loop 2; loop 99; end; loop 99; end; end; play nod;", 1, 6);
    }

    private static void ranRefused() {
        EDGES.says(42, "NIGHTS that could not be played (5; 8: there was none).");
        EDGES.refused(5, "what -1", x -> x.ran(-1));
        EDGES.refused(5, "what 5", x -> x.ran(5));
        for (int far : Edges.FAR_OFF) {
            EDGES.refused(5, "what " + far, x -> x.ran(far));
        }
        OneSeat x = with(STAGE, "play;");
        for (int what = 0; what <= 4; what++) {
            EDGES.no(x, 8, "there was none", x.ran(what));
        }
        EDGES.no(x, 5, "5 ahead of 8", x.ran(5));
        x.run(10000);
        EDGES.no(x, 8, "none with STATUS 0", x.ran(0));
        x.often(1, 0, 20);
        EDGES.no(x, 8, "often() is no run()", x.ran(0));
        x.run(0);
        EDGES.fine(x, "there was one", x.ran(0), 1);
    }

    private static void ran() {
        EDGES.says(42, "Of run() latest with STATUS 0, what 0: STEPS done, 1: the set SEEN in all its NIGHTS, 2: the set of ENDINGS (as can()), 3: BREATHS of all, 4: NIGHTS that could not be played");
        OneSeat x = with(STAGE.replace(" ends 3", ""), "play nod; play cry; bar a; play nod; bar c; play;");
        run(x, "all", 0, 3, 6, 7, 518, 6 + 7 + 4, 1);
        int[] stays = {6, 7, 518, 17, 1};
        x.run(-1);
        x.often(9, 0, 20);
        for (int what = 0; what <= 4; what++) {
            EDGES.fine(x, "behind 5 and often(): " + what, x.ran(what), stays[what]);
        }
        Check.week(x, "");
        run(x, "nothing done", 9999, 0, 0, 0, 0, 0, 0);
        OneSeat y = with("role a;role b;role c;role d;role e;role f; scene s lines 20 with a b c d e f ends 0; scene t lines 20 with a b c d e f ends 8 then s;"
            + "kind k lots 1 tears 0 laughs 0 sleeps 0;", "loop 98; play; end; bar s; play;");
        run(y, "many BREATHS", 0, 99, 101, 3, 257, 98 * 240 + 120, 0);
    }

    private static void oftenRefused() {
        EDGES.says(43, "(5: ENDING 0 to 9; the last above 9,999, too; 8)");
        EDGES.denied(5, "ending -1", x -> x.often(-1, 0, 1));
        EDGES.denied(5, "ending 10", x -> x.often(10, 0, 1));
        EDGES.denied(5, "seed -1", x -> x.often(1, -1, 1));
        EDGES.denied(5, "seed -1, though others are right", x -> x.often(1, -1, 20));
        EDGES.denied(5, "seed 10000", x -> x.often(1, 10000, 1));
        EDGES.denied(5, "the last above", x -> x.often(1, 9999, 2));
        EDGES.denied(5, "the last above", x -> x.often(1, 9981, 20));
        for (int far : Edges.FAR_OFF) {
            EDGES.denied(5, "ending " + far, x -> x.often(far, 0, 1));
            EDGES.denied(5, "seed " + far, x -> x.often(1, far, 1));
            EDGES.denied(5, "seed " + far + ", 20", x -> x.often(1, far, 20));
            EDGES.denied(5, "seeds " + far, x -> x.often(1, 0, far));
        }
        EDGES.says(43, "so many seeds (1 to 20)");
        EDGES.denied(5, "no seeds", x -> x.often(1, 0, 0));
        EDGES.denied(5, "21 seeds", x -> x.often(1, 0, 21));
        EDGES.denied(5, "-1 seeds", x -> x.often(1, 5, -1));
        Edges.Turn noWeek = Edges.staged(STAGE);
        EDGES.says(43, "STATUS of a call is the first of these that holds");
        EDGES.denied(8, "no WEEK", noWeek, x -> x.often(1, 0, 1));
        EDGES.denied(5, "5 (ENDING) ahead of 8", noWeek, x -> x.often(10, 0, 1));
        EDGES.denied(5, "5 (a seed) ahead of 8", noWeek, x -> x.often(1, 10000, 1));
        EDGES.denied(5, "5 (seeds) ahead of 8", noWeek, x -> x.often(1, 0, 0));
        EDGES.denied(5, "5 (the last above) ahead of 8", noWeek, x -> x.often(1, 9999, 2));
    }

    private static void often() {
        EDGES.says(43, "in how many of so many seeds (1 to 20) from one on an ENDING comes in the WEEK");
        OneSeat x = with(STAGE.replace(" ends 1", "").replace(" ends 2", " ends 0"), "play nod; play cry; play nod; play nod;");
        EDGES.told(x, "not in the latest NIGHT alone: 0", x.often(0, 0, 20), 1, 1);
        EDGES.told(x, "none: 9", x.often(9, 0, 20), 1, 1);
        EDGES.told(x, "a SCENE's ENDING that is not the last", x.often(3, 0, 20), 0, 1);
        EDGES.told(x, "an ENDING that no SCENE has", x.often(8, 0, 1), 0, 1);
        OneSeat y = with(STAGE, "");
        EDGES.told(y, "no NIGHT", y.often(9, 0, 20), 0, 1);
        OneSeat z = with(STAGE, "bar c; play;");
        EDGES.told(z, "a NIGHT that can't be played has no ENDING, nor none", z.often(9, 0, 20), 0, 1);
    }

    private static void oftenSeeds() {
        EDGES.says(43, "so many seeds (1 to 20) from one on");
        OneSeat x = with(STAGE, "play;");
        int[][] of = {{0, 1}, {0, 20}, {5, 7}, {9980, 20}, {9999, 1}, {9979, 20}, {9998, 2}, {1234, 12}};
        for (int[] seeds : of) {
            int came = 0;
            for (int k = 0; k < seeds[1]; k++) {
                came += new Draws(seeds[0] + k).among(2, 1, 1);
            }
            EDGES.due("from " + seeds[0] + " on " + seeds[1], x.often(2, seeds[0], seeds[1]), true);
            EDGES.due("as many of them", x.top() * seeds[1], x.bottom() * came);
            EDGES.fine(x, "the BOOK", x.many(4), 0);
        }
    }

    private static void oftenKeeps() {
        EDGES.says(43, "the BOOK stays.");
        OneSeat x = with(STAGE, "buy q; bar b; loop 30; play nod; end;");
        Check.night(x, "1");
        x.run(0);
        Check.night(x, "1");
        EDGES.told(x, "20 seeds", x.often(1, 0, 20), 1, 1);
        EDGES.fine(x, "how many", x.many(4), 20);
        EDGES.fine(x, "the latest", x.book(0, 0), 6);
        EDGES.fine(x, "the next", x.book(1, 0), 5);
        EDGES.fine(x, "BARRED", x.many(5), 0);
        EDGES.fine(x, "DEAD", x.many(6), 0);
        OneSeat y = with(STAGE, "play;");
        y.often(1, 0, 20);
        EDGES.fine(y, "an empty BOOK", y.many(4), 0);
    }
}
