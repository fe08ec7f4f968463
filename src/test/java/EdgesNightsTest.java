/** Boundary cases of promises 19 to 25: NIGHTS by hand and by LOT, the BOOK. */
public final class EdgesNightsTest {
    private static final Edges EDGES = new Edges();
    private static final String KIND = "kind k lots 1 tears 0 laughs 0 sleeps 0;";
    private static final String STAR = "scene a lines 1; scene b lines 1; scene c lines 1; scene d lines 1;"
        + "scene e lines 1 then a tear b laugh c sleep d;";

    public static void main(String[] args) {
        nightRefused();
        nightOrder();
        nightNumbers();
        nightSoMany();
        rowEnds();
        withoutOneThen();
        curtain();
        killed();
        nothingIs();
        endingOfTheLast();
        lotRefused();
        lotKinds();
        lotDeeds();
        lotDrawsGoOn();
        bookRefused();
        bookNone();
        bookTwenty();
        unseen();
        ledAndHeard();
        ledMost();
        heardOfTheBook();
        suspectsRefused();
        suspects();
        EDGES.finish(19, 25);
    }

    private static void nightRefused() {
        EDGES.says(19, "the set SEEN (1; 3; 5: so many; 4; 5: a number not 0 to 3; 9: nothing can be played; in this order).");
        EDGES.refused(1, "tray -1", x -> x.night(-1, 0));
        EDGES.refused(1, "tray 4", x -> x.night(4, 0));
        EDGES.refused(3, "MISSING", x -> x.night(2, 0));
        EDGES.refused(5, "so many: -1", x -> x.night(0, -1));
        EDGES.refused(5, "so many: 13", x -> x.tray(2, 0, 60), x -> x.night(2, 13));
        EDGES.refused(4, "6 of 5 numbers", x -> x.night(0, 6));
        EDGES.refused(4, "12 of 11 numbers", x -> x.tray(2, 0, 11), x -> x.night(2, 12));
        EDGES.refused(4, "1 of no numbers", x -> x.tray(2, 0, 0), x -> x.night(2, 1));
        EDGES.refused(9, "FIRST is BARRED", x -> x.bar(4, true), x -> x.night(0, 3));
        EDGES.refused(9, "a ROLE of FIRST is DEAD", x -> x.kill(2, true), x -> x.night(0, 0));
        EDGES.refused(9, "no SCENES", Edges.staged("role a; " + KIND), x -> x.night(0, 0));
        for (int far : Edges.FAR_OFF) {
            EDGES.refused(1, "tray " + far, x -> x.night(far, 1));
            EDGES.refused(5, "so many: " + far, x -> x.night(0, far));
        }
    }

    private static void nightOrder() {
        EDGES.says(19, "(1; 3; 5: so many; 4; 5: a number not 0 to 3; 9: nothing can be played; in this order)");
        Edges.Turn bad = x -> x.write(0, 0, 4);
        Edges.Turn barred = x -> x.bar(4, true);
        Edges.Turn both = x -> {
            bad.on(x);
            barred.on(x);
        };
        EDGES.refused(1, "1 ahead of 5", x -> x.night(4, 13));
        EDGES.refused(1, "1 ahead of 9", barred, x -> x.night(-1, 0));
        EDGES.refused(3, "3 ahead of 5", x -> x.night(2, 13));
        EDGES.refused(3, "3 ahead of 4", x -> x.night(2, 1));
        EDGES.refused(3, "3 ahead of 9", barred, x -> x.night(2, 0));
        EDGES.refused(5, "5 (so many) ahead of 4", x -> x.night(0, 13));
        EDGES.refused(5, "5 (so many) ahead of 9", barred, x -> x.night(0, -1));
        EDGES.refused(4, "4 ahead of 5 (a number)", bad, x -> x.night(0, 6));
        EDGES.refused(4, "4 ahead of 9", barred, x -> x.night(0, 6));
        EDGES.refused(5, "5 (a number) ahead of 9", both, x -> x.night(0, 1));
        EDGES.refused(9, "9 where the number is not one of so many", both, x -> x.night(0, 0));
    }

    private static void nightNumbers() {
        EDGES.says(19, "5: a number not 0 to 3");
        for (long wrong : new long[] {-1, 4, 127, -128, 1L << 32, (1L << 32) + 1, Long.MIN_VALUE, Long.MAX_VALUE, -4}) {
            for (int place = 0; place < 3; place++) {
                int at = place;
                Edges.Turn put = x -> {
                    x.tray(1, 3, 3);
                    x.write(1, at, wrong);
                };
                EDGES.refused(5, wrong + " at " + place, put, x -> x.night(1, 3));
            }
        }
        OneSeat x = Edges.full();
        EDGES.fine(x, "all four numbers", x.night(3, 4), 16);
        x.write(3, 3, 9);
        EDGES.fine(x, "a wrong one behind so many", x.night(3, 3), 16);
        EDGES.no(x, 5, "it is one of so many", x.night(3, 4));
    }

    private static void nightSoMany() {
        EDGES.says(19, "A NIGHT by hand, by the first so many numbers of a TRAY (0 to 12)");
        StringBuilder b = new StringBuilder("scene a lines 1;");
        for (char c = 'b'; c < 'm'; c++) {
            b.append("scene ").append(c).append(" lines 1 sleep ").append((char) (c - 1)).append(';');
        }
        OneSeat x = Check.with(b.toString());
        x.tray(0, 2, 12);
        for (int many = 0; many <= 12; many++) {
            EDGES.fine(x, "so many: " + many, x.night(0, many), 2048);
        }
        for (int k = 0; k < 12; k++) {
            x.write(0, k, 3);
        }
        for (int many = 0; many <= 12; many++) {
            int scenes = Math.min(many + 1, 12);
            EDGES.fine(x, "SLEEP behind so many: " + many, x.night(0, many), 4095 & ~((1 << 12 - scenes) - 1));
        }
        x.tray(1, 0, 0);
        EDGES.fine(x, "none of none", x.night(1, 0), 2048);
    }

    private static void rowEnds() {
        EDGES.says(19, "(where the row ends, nothing)");
        OneSeat x = Edges.full();
        x.tray(2, 0, 12);
        EDGES.fine(x, "no row: THEN, THEN", x.night(2, 0), 28);
        x.write(2, 0, 1);
        x.write(2, 1, 2);
        EDGES.fine(x, "numbers behind the row are nothing", x.night(2, 0), 28);
        EDGES.fine(x, "numbers behind the CURTAIN, too", x.night(2, 12), 20);
    }

    private static void withoutOneThen() {
        EDGES.says(19, "0 nothing: THEN; 1 a TEAR, 2 a LAUGH, 3 SLEEP: the SCENE told for that, without one THEN.");
        OneSeat x = Check.with(STAR);
        int[] star = {17, 18, 20, 24};
        for (int deed = 0; deed < 4; deed++) {
            EDGES.fine(x, "deed " + deed, Check.night(x, "" + deed), star[deed]);
        }
        OneSeat y = Check.with("scene a lines 1; scene b lines 1; scene c lines 1 then a laugh b;");
        int[] then = {5, 5, 6, 5};
        OneSeat z = Check.with("scene a lines 1; scene b lines 1; scene c lines 1 laugh b;");
        int[] none = {4, 4, 6, 4};
        for (int deed = 0; deed < 4; deed++) {
            EDGES.fine(y, "without one THEN " + deed, Check.night(y, "" + deed), then[deed]);
            EDGES.fine(z, "without THEN, too " + deed, Check.night(z, "" + deed), none[deed]);
        }
    }

    private static void curtain() {
        EDGES.says(19, "It is over (the CURTAIN) behind a SCENE that does not go on, or would go on to one that can not be played: BARRED, or with a ROLE in it that is DEAD");
        OneSeat x = Check.with("scene a lines 1;");
        EDGES.fine(x, "it does not go on", Check.night(x, "123"), 1);
        OneSeat y = Check.with("role r; scene a lines 1; scene b lines 1 with r; scene c lines 1 then a tear b;");
        y.bar(1, true);
        EDGES.fine(y, "BARRED: THEN does not come in its place", Check.night(y, "1"), 4);
        EDGES.fine(y, "the other one is not BARRED", Check.night(y, ""), 5);
        y.bar(1, false);
        y.kill(0, true);
        EDGES.fine(y, "DEAD: THEN does not come in its place", Check.night(y, "1"), 4);
        y.kill(0, false);
        y.bar(0, true);
        EDGES.fine(y, "THEN is BARRED, the TEAR is not", Check.night(y, "1"), 6);
        EDGES.fine(y, "THEN is BARRED", Check.night(y, "3"), 4);
        OneSeat z = Check.with("role p; role q; role r; scene a lines 1 with p q r; scene b lines 1 then a;");
        for (int role = 0; role < 3; role++) {
            z.kill(role, true);
            EDGES.fine(z, "one of its ROLES is DEAD " + role, Check.night(z, ""), 2);
            z.kill(role, false);
        }
        EDGES.fine(z, "nobody is DEAD", Check.night(z, ""), 3);
    }

    private static void killed() {
        EDGES.says(19, "or was KILLED in a SCENE of this NIGHT ahead of it");
        OneSeat x = Check.with("role p; role q; scene a lines 1 with p; scene b lines 1 with q then a;"
            + "scene c lines 1 with p then b laugh a kills p; scene d lines 1 then c sleep b;");
        EDGES.fine(x, "KILLED two SCENES ahead of it", Check.night(x, ""), 14);
        EDGES.fine(x, "KILLED just ahead of it", Check.night(x, "02"), 12);
        EDGES.fine(x, "KILLED in its own SCENE, not ahead of it", Check.night(x, "0") & 4, 4);
        EDGES.fine(x, "not KILLED in another NIGHT", Check.night(x, "3"), 11);
        EDGES.fine(x, "nobody is DEAD by it", x.many(6), 0);
        x.kill(0, true);
        EDGES.fine(x, "DEAD already", Check.night(x, ""), 8);
    }

    private static void nothingIs() {
        EDGES.says(19, "If the FIRST scene can not be played, nothing is.");
        OneSeat x = Check.with("role r; scene a lines 1; scene b lines 1 with r;" + KIND);
        x.bar(1, true);
        EDGES.no(x, 9, "the last one told is BARRED", Check.night(x, ""));
        EDGES.no(x, 9, "by LOT", x.lot(0));
        x.bar(1, false);
        x.kill(0, true);
        EDGES.no(x, 9, "its ROLE is DEAD", Check.night(x, ""));
        x.kill(0, false);
        x.bar(0, true);
        EDGES.fine(x, "another one is BARRED", Check.night(x, ""), 2);
        EDGES.fine(x, "one NIGHT alone is in the BOOK", x.many(4), 1);
    }

    private static void endingOfTheLast() {
        EDGES.says(19, "Its ENDING is that of the last SCENE that was played (none without).");
        OneSeat x = Check.with("scene a lines 1 ends 0; scene b lines 1; scene c lines 1 ends 8 then b tear a;");
        Check.night(x, "1");
        EDGES.fine(x, "ENDING 0", x.book(0, 1), 0);
        Check.night(x, "");
        EDGES.fine(x, "none, though a SCENE ahead has one", x.book(0, 1), -1);
        x.bar(1, true);
        Check.night(x, "");
        EDGES.fine(x, "ENDING 8", x.book(0, 1), 8);
    }

    private static void lotRefused() {
        EDGES.says(20, "(5: 0 to 9,999; 8: no KINDS; 9: nothing can be played)");
        Edges.Turn noKinds = Edges.staged("role a; scene s lines 1 with a;");
        Edges.Turn noKindsBarred = x -> {
            noKinds.on(x);
            x.bar(0, true);
        };
        EDGES.refused(5, "seed -1", x -> x.lot(-1));
        EDGES.refused(5, "seed 10000", x -> x.lot(10000));
        for (int far : Edges.FAR_OFF) {
            EDGES.refused(5, "seed " + far, x -> x.lot(far));
        }
        EDGES.refused(5, "5 ahead of 8", noKinds, x -> x.lot(10000));
        EDGES.refused(5, "5 ahead of 9", x -> x.bar(4, true), x -> x.lot(-1));
        EDGES.refused(8, "no KINDS", noKinds, x -> x.lot(0));
        EDGES.refused(8, "8 ahead of 9", noKindsBarred, x -> x.lot(0));
        EDGES.refused(9, "BARRED", x -> x.bar(4, true), x -> x.lot(0));
        EDGES.refused(9, "DEAD", x -> x.kill(1, true), x -> x.lot(9999));
        EDGES.refused(9, "no SCENES", Edges.staged("role a; " + KIND), x -> x.lot(0));
        OneSeat x = Check.with(STAR + KIND);
        EDGES.fine(x, "seed 0", x.lot(0), 0);
        EDGES.fine(x, "seed 9999", x.lot(9999), 0);
    }

    private static void lotKinds() {
        EDGES.says(20, "a draw by all LOTS together tells the KIND (the first one by its LOTS, then the next ..)");
        int[][] lots = {{30, 1, 29, 2}, {1, 1, 1, 1}, {30, 30, 30, 30}, {1, 30}, {2, 1, 3}, {7}};
        for (int[] of : lots) {
            StringBuilder b = new StringBuilder("scene a lines 1;");
            int all = 0;
            for (int k = 0; k < of.length; k++) {
                b.append("kind k").append((char) ('a' + k)).append(" lots ").append(of[k]).append(" tears 0 laughs 0 sleeps 0;");
                all += of[k];
            }
            OneSeat x = Check.with(b.toString());
            for (int seed = 0; seed < 200; seed++) {
                EDGES.fine(x, "seed " + seed + " of " + of.length, x.lot(seed), new Draws(seed).among(all, of));
            }
        }
    }

    private static void lotDeeds() {
        EDGES.says(20, "behind each SCENE a draw by 16: less than TEARS: 1; else less than these and LAUGHS: 2; less than all three: 3; else 0.");
        int[][] shares = {{5, 4, 3}, {0, 0, 0}, {16, 0, 0}, {0, 16, 0}, {0, 0, 16}, {1, 14, 1}, {0, 8, 8}, {15, 0, 0}};
        int[] seen = {18, 20, 24, 17};
        for (int[] of : shares) {
            OneSeat x = Check.with(STAR + "kind k lots 7 tears " + of[0] + " laughs " + of[1] + " sleeps " + of[2] + ";");
            for (int seed = 0; seed < 120; seed++) {
                Draws draws = new Draws(seed);
                draws.by(7);
                EDGES.fine(x, "seed " + seed + ": the KIND", x.lot(seed), 0);
                EDGES.fine(x, "seed " + seed + ": SEEN", x.book(0, 0), seen[draws.among(16, of)]);
            }
        }
    }

    private static void lotDrawsGoOn() {
        EDGES.says(20, "Draws: s, at first the seed, becomes what is left of s times 2,903 and 7,187 by 65,536; the draw by n is the rest of s by 8, rounded down, by n.");
        StringBuilder b = new StringBuilder("scene a lines 1; scene b lines 1 then a;");
        for (char c = 'c'; c < 'm'; c++) {
            b.append("scene ").append(c).append(" lines 1 then ").append((char) (c - 1)).append(" laugh ").append((char) (c - 2)).append(';');
        }
        b.append("kind ka lots 3 tears 2 laughs 7 sleeps 3; kind kb lots 5 tears 4 laughs 5 sleeps 6;");
        OneSeat x = null;
        for (int k = 0; k < 200; k++) {
            int seed = k < 100 ? k : 9999 - (k - 100) * 97;
            x = k % 100 == 0 ? Check.with(b.toString()) : x;
            Draws draws = new Draws(seed);
            int kind = draws.among(8, 3, 5);
            int set = 0;
            for (int scene = 11; scene >= 0;) {
                set |= 1 << scene;
                int deed = kind == 0 ? draws.among(16, 2, 7, 3) : draws.among(16, 4, 5, 6);
                scene -= deed == 1 && scene > 1 ? 2 : 1;
            }
            EDGES.fine(x, "seed " + seed + ": the KIND", x.lot(seed), kind);
            EDGES.fine(x, "seed " + seed + ": SEEN", x.book(0, 0), set);
        }
    }

    private static void bookRefused() {
        EDGES.says(21, "(5: what; 8: no such NIGHT)");
        EDGES.refused(5, "what -1", x -> x.book(0, -1));
        EDGES.refused(5, "what 4", x -> x.book(0, 4));
        EDGES.refused(5, "5 ahead of 8", x -> x.book(99, 4));
        EDGES.refused(8, "NIGHT -1", x -> x.book(-1, 0));
        EDGES.refused(8, "just behind the oldest", x -> x.book(5, 0));
        EDGES.refused(8, "NIGHT 20", x -> x.book(20, 3));
        for (int far : Edges.FAR_OFF) {
            EDGES.refused(5, "what " + far, x -> x.book(0, far));
            EDGES.refused(8, "NIGHT " + far, x -> x.book(far, 0));
        }
        OneSeat x = Check.with(STAR);
        EDGES.no(x, 8, "an empty BOOK", x.book(0, 0));
        EDGES.no(x, 5, "an empty BOOK: 5 ahead of 8", x.book(0, 4));
    }

    private static void bookNone() {
        EDGES.says(21, "(each NONE with STATUS 0: none)");
        OneSeat x = Check.with("scene a lines 1 ends 0; scene b lines 1 tear a;" + KIND);
        x.book(9, 9);
        Check.night(x, "");
        EDGES.fine(x, "no ENDING", x.book(0, 1), -1);
        EDGES.fine(x, "no KIND", x.book(0, 2), -1);
        EDGES.fine(x, "no BREATHS", x.book(0, 3), 0);
        x.lot(0);
        EDGES.fine(x, "KIND 0", x.book(0, 2), 0);
        Check.night(x, "1");
        EDGES.fine(x, "ENDING 0", x.book(0, 1), 0);
        EDGES.says(21, "BREATHS together");
        OneSeat y = Check.with("role a;role b;role c;role d;role e;role f; scene g lines 20 with a b c d e f; scene h lines 20 with f then g; scene i lines 19 then h;");
        Check.night(y, "");
        EDGES.fine(y, "LINES by ROLES, with none, too", y.book(0, 3), 140);
    }

    private static void bookTwenty() {
        EDGES.says(21, "The BOOK has the latest 20 NIGHTS (an older one goes for a 21st)");
        OneSeat x = Check.with(STAR + KIND);
        int[] seen = {17, 18, 20, 24};
        for (int k = 0; k < 43; k++) {
            Check.night(x, "" + k % 4);
            int many = Math.min(k + 1, 20);
            EDGES.fine(x, "how many behind NIGHT " + k, x.many(4), many);
            EDGES.fine(x, "the latest", x.book(0, 0), seen[k % 4]);
            EDGES.fine(x, "the oldest", x.book(many - 1, 0), seen[(k - many + 1) % 4]);
            EDGES.no(x, 8, "none behind it", x.book(many, 0));
        }
        x.lot(3);
        EDGES.fine(x, "a NIGHT by LOT, too", x.book(0, 2), 0);
        EDGES.fine(x, "still 20", x.many(4), 20);
    }

    private static void unseen() {
        EDGES.says(22, "UNSEEN: the set of SCENES that no NIGHT in the BOOK has SEEN.");
        OneSeat x = new OneSeat();
        x.many(9);
        EDGES.fine(x, "no SCENES", x.unseen(), 0);
        Check.stage(x, STAR);
        EDGES.fine(x, "no NIGHT", x.unseen(), 31);
        x.bar(0, true);
        EDGES.fine(x, "BARRED is UNSEEN", x.unseen(), 31);
        x.bar(0, false);
        for (int k = 0; k < 4; k++) {
            Check.night(x, "" + k);
        }
        EDGES.fine(x, "none", x.unseen(), 0);
        for (int k = 4; k < 20; k++) {
            Check.night(x, "3");
        }
        EDGES.fine(x, "none with 20", x.unseen(), 0);
        Check.night(x, "3");
        EDGES.fine(x, "the oldest is gone", x.unseen(), 1);
        Check.night(x, "3");
        EDGES.fine(x, "and the next", x.unseen(), 3);
        StringBuilder b = new StringBuilder();
        for (char c = 'a'; c < 'm'; c++) {
            b.append("scene ").append(c).append(" lines 1;");
        }
        EDGES.fine(Check.with(b.toString()), "twelve", Check.with(b.toString()).unseen(), 4095);
    }

    private static void ledAndHeard() {
        EDGES.says(23, "LED (5: no such LINE).");
        EDGES.refused(5, "line -1", x -> x.led(-1));
        EDGES.refused(5, "just behind the last line", x -> x.led(15));
        EDGES.says(24, "HEARD (5: no such LINE).");
        EDGES.refused(5, "line -1", x -> x.heard(-1));
        EDGES.refused(5, "just behind the last line", x -> x.heard(15));
        for (int far : Edges.FAR_OFF) {
            EDGES.refused(5, "led " + far, x -> x.led(far));
            EDGES.refused(5, "heard " + far, x -> x.heard(far));
        }
        EDGES.says(23, "LINES are numbered from 0, SCENE by SCENE: to which SCENE a LINE belongs");
        OneSeat x = Edges.full();
        int[] led = {0, 1, 1, 2, 2, 2, 2, 2, 3, 3, 3, 4, 4, 4, 4};
        for (int line = 0; line < led.length; line++) {
            EDGES.fine(x, "line " + line, x.led(line), led[line]);
        }
    }

    private static void ledMost() {
        EDGES.says(23, "how many LINES (1 to 20)");
        StringBuilder b = new StringBuilder();
        for (char c = 'a'; c < 'm'; c++) {
            b.append("scene ").append(c).append(" lines 20;");
        }
        OneSeat x = Check.with(b.toString());
        for (int line = 0; line < 240; line++) {
            EDGES.due("line " + line, x.led(line), line / 20);
        }
        EDGES.no(x, 5, "line 240", x.led(240));
        EDGES.no(x, 5, "heard 240", x.heard(240));
        EDGES.fine(x, "heard 239", x.heard(239), 0);
    }

    private static void heardOfTheBook() {
        EDGES.says(24, "HEARD: in how many NIGHTS of the BOOK.");
        OneSeat x = Check.with(STAR);
        for (int k = 0; k < 45; k++) {
            EDGES.fine(x, "the FIRST's line behind " + k, x.heard(4), Math.min(k, 20));
            EDGES.fine(x, "the line of the first 20", x.heard(0), k <= 20 ? k : Math.max(0, 40 - k));
            Check.night(x, k < 20 ? "0" : "1");
        }
    }

    private static void suspectsRefused() {
        EDGES.says(25, "SUSPECTS with an ENDING (0 to 8): a set (5; 8: no NIGHT with it).");
        EDGES.refused(5, "ending -1", x -> x.suspects(-1));
        EDGES.refused(5, "ending 9", x -> x.suspects(9));
        for (int far : Edges.FAR_OFF) {
            EDGES.refused(5, "ending " + far, x -> x.suspects(far));
        }
        EDGES.refused(8, "an ENDING that no NIGHT had", x -> x.suspects(0));
        EDGES.refused(8, "an ENDING that no SCENE has", x -> x.suspects(8));
        OneSeat x = Check.with(STAR + KIND);
        EDGES.no(x, 8, "an empty BOOK", x.suspects(0));
        EDGES.no(x, 5, "an empty BOOK: 5 ahead of 8", x.suspects(9));
        x.lot(0);
        for (int ending = 0; ending <= 8; ending++) {
            EDGES.no(x, 8, "NIGHTS without an ENDING: " + ending, x.suspects(ending));
        }
    }

    private static void suspects() {
        EDGES.says(25, "SUSPECTS: the set of ROLES that are in each SCENE that some NIGHT of the BOOK with an ENDING has SEEN.");
        OneSeat x = Check.with("role a;role b;role c;role d;role e;role f; scene g lines 1 with a b ends 0; scene h lines 1 with c d ends 8;"
            + "scene i lines 1 ends 8; scene j lines 1 with b c d e f then g tear h laugh i;");
        Check.night(x, "");
        EDGES.fine(x, "ENDING 0", x.suspects(0), 2);
        Check.night(x, "1");
        EDGES.fine(x, "ENDING 8", x.suspects(8), 12);
        EDGES.fine(x, "ENDING 0 still", x.suspects(0), 2);
        Check.night(x, "2");
        EDGES.fine(x, "a SCENE without ROLES in the latest: nobody", x.suspects(8), 0);
        for (int k = 0; k < 19; k++) {
            Check.night(x, "1");
        }
        EDGES.fine(x, "it is the oldest but one", x.suspects(8), 0);
        EDGES.no(x, 8, "the one with 0 is gone", x.suspects(0));
        Check.night(x, "1");
        EDGES.fine(x, "it is gone", x.suspects(8), 12);
        Check.night(x, "2");
        Check.night(x, "1");
        EDGES.fine(x, "one between others", x.suspects(8), 0);
        StringBuilder b = new StringBuilder("role p; role q; scene a lines 1 with q ends 3;");
        for (char c = 'b'; c < 'm'; c++) {
            b.append("scene ").append(c).append(" lines 1 with p q then ").append((char) (c - 1)).append(';');
        }
        OneSeat twelve = Check.with(b.toString());
        Check.night(twelve, "");
        EDGES.fine(twelve, "who is in all twelve", twelve.suspects(3), 2);
    }
}
