/** Boundary cases of promises 30 to 36: what can be, STEERING. */
public final class EdgesWaysTest {
    private static final Edges EDGES = new Edges();
    private static final String STAR = "scene a lines 1 ends 0; scene b lines 1 ends 8; scene c lines 1; scene d lines 1 ends 0;"
        + "scene e lines 1 ends 5 then a tear b laugh c sleep d;";
    private static final String ALONE = "scene a lines 1;";
    private static final Edges.Turn BARRED = x -> x.bar(4, true);
    private static final Edges.Turn DEAD = x -> x.kill(2, true);
    private static final Edges.Turn NO_SCENES = Edges.staged("role a; kind k lots 1 tears 0 laughs 0 sleeps 0;");

    public static void main(String[] args) {
        nothingCanBePlayed();
        ways();
        waysTheMost();
        lengthRefused();
        length();
        canRefused();
        can();
        by();
        fewest();
        fewestTheMost();
        steerRefused();
        steer();
        steerLeast();
        steerKilled();
        steerAt();
        fewerBehindMore();
        EDGES.finish(30, 36);
    }

    private static void nothingCanBePlayed() {
        EDGES.says(30, "WAYS (9: nothing can be played).");
        EDGES.refused(9, "BARRED", BARRED, x -> x.ways());
        EDGES.refused(9, "DEAD", DEAD, x -> x.ways());
        EDGES.refused(9, "no SCENES", NO_SCENES, x -> x.ways());
        EDGES.says(34, "FEWEST (9: nothing can be played).");
        EDGES.refused(9, "BARRED", BARRED, x -> x.fewest());
        EDGES.refused(9, "DEAD", DEAD, x -> x.fewest());
        EDGES.refused(9, "no SCENES", NO_SCENES, x -> x.fewest());
    }

    private static void ways() {
        EDGES.says(30, "WAYS: how many unlike rows of SCENES a NIGHT can be, whatever the spectator does.");
        OneSeat x = Check.with(ALONE);
        EDGES.fine(x, "one SCENE", x.ways(), 1);
        OneSeat y = Check.with("scene a lines 1; scene b lines 1 then a tear a laugh a sleep a;");
        EDGES.fine(y, "the same row by each deed", y.ways(), 1);
        OneSeat z = Check.with("scene a lines 1; scene b lines 1 laugh a;");
        EDGES.fine(z, "over or on", z.ways(), 2);
        OneSeat star = Check.with(STAR);
        EDGES.fine(star, "four", star.ways(), 4);
        star.bar(0, true);
        EDGES.fine(star, "THEN is BARRED: over behind the FIRST", star.ways(), 4);
        star.bar(3, true);
        EDGES.fine(star, "SLEEP, too: the same row", star.ways(), 3);
        OneSeat none = Check.with(STAR + "kind k lots 1 tears 0 laughs 0 sleeps 0;");
        EDGES.fine(none, "though nobody sheds TEARS", none.ways(), 4);
        OneSeat killed = Check.with("role r; scene a lines 1 with r; scene b lines 1 then a; scene c lines 1 then a kills r;"
            + "scene d lines 1 then c tear b;");
        EDGES.fine(killed, "a, by b alone", killed.ways(), 2);
        EDGES.fine(killed, "the longest is by b", killed.length(0), 3);
    }

    /** Twelve SCENES, each of which leads to those told just ahead of it, one by each deed. */
    private static String ladder(String lowest, String... deeds) {
        StringBuilder b = new StringBuilder(lowest);
        for (int k = 1; k < 12; k++) {
            b.append("scene ").append((char) ('a' + k)).append(" lines 1");
            for (int d = 0; d < deeds.length && d < k; d++) {
                b.append(' ').append(deeds[d]).append(' ').append((char) ('a' + k - 1 - d));
            }
            b.append(';');
        }
        return b.toString();
    }

    private static void waysTheMost() {
        EDGES.says(30, "SCENES, at most 12");
        OneSeat x = Check.with(ladder(ALONE, "then", "tear", "laugh", "sleep"));
        // the four ahead of it each: 1, 1, 2, 4, 8, 15, 29, 56, 108, 208, 401, 773
        EDGES.fine(x, "the most rows", x.ways(), 773);
        EDGES.fine(x, "the longest", x.length(0), 12);
        EDGES.fine(x, "the shortest", x.length(1), 4);
        EDGES.fine(x, "CAN", x.can(0), 4095);
        // without THEN each SCENE may be the last
        OneSeat y = Check.with(ladder(ALONE, "tear", "laugh", "sleep"));
        EDGES.fine(y, "1, 2, 4, 8, 15, 28, 52, 96, 177, 326, 600, 1104", y.ways(), 1104);
        EDGES.fine(y, "the most with a CURTAIN behind each: longest", y.length(0), 12);
        EDGES.fine(y, "the most with a CURTAIN behind each: shortest", y.length(1), 1);
        EDGES.fine(y, "of the ENDINGS none", y.can(1), 512);
    }

    private static void lengthRefused() {
        EDGES.says(31, "LONGEST (what 0), SHORTEST (1) (5; 9).");
        EDGES.refused(5, "what -1", x -> x.length(-1));
        EDGES.refused(5, "what 2", x -> x.length(2));
        for (int far : Edges.FAR_OFF) {
            EDGES.refused(5, "what " + far, x -> x.length(far));
        }
        EDGES.refused(9, "LONGEST, BARRED", BARRED, x -> x.length(0));
        EDGES.refused(9, "SHORTEST, DEAD", DEAD, x -> x.length(1));
        EDGES.refused(9, "no SCENES", NO_SCENES, x -> x.length(0));
        EDGES.refused(5, "5 ahead of 9", BARRED, x -> x.length(2));
    }

    private static void length() {
        EDGES.says(31, "LONGEST, SHORTEST: how many SCENES the longest, the shortest has.");
        OneSeat x = Check.with(ALONE);
        EDGES.fine(x, "one SCENE: LONGEST", x.length(0), 1);
        EDGES.fine(x, "one SCENE: SHORTEST", x.length(1), 1);
        OneSeat y = Edges.full();
        EDGES.fine(y, "LONGEST", y.length(0), 3);
        EDGES.fine(y, "SHORTEST: over behind the FIRST", y.length(1), 1);
        y.bar(0, false);
        EDGES.fine(y, "odd's d is DEAD", y.length(1), 1);
        y.kill(3, false);
        EDGES.fine(y, "SHORTEST now", y.length(1), 2);
    }

    private static void canRefused() {
        EDGES.says(32, "CAN (what 0), ENDINGS (1; 1 for 0 ..; 512 for none): sets (5).");
        EDGES.refused(5, "what -1", x -> x.can(-1));
        EDGES.refused(5, "what 2", x -> x.can(2));
        EDGES.refused(5, "what 2, BARRED", BARRED, x -> x.can(2));
        for (int far : Edges.FAR_OFF) {
            EDGES.refused(5, "what " + far, x -> x.can(far));
        }
        OneSeat x = Edges.full();
        x.bar(4, true);
        EDGES.fine(x, "BARRED: CAN", x.can(0), 0);
        EDGES.fine(x, "BARRED: ENDINGS", x.can(1), 0);
        OneSeat y = new OneSeat();
        EDGES.fine(y, "no SCENES: CAN", y.can(0), 0);
        EDGES.fine(y, "no SCENES: ENDINGS", y.can(1), 0);
        EDGES.says(33, "BY a SCENE: a set, as ENDINGS (2).");
        EDGES.refused(2, "scene -1", z -> z.by(-1));
        EDGES.refused(2, "just behind the last scene", z -> z.by(5));
        EDGES.refused(2, "no SCENES", NO_SCENES, z -> z.by(0));
        for (int far : Edges.FAR_OFF) {
            EDGES.refused(2, "scene " + far, z -> z.by(far));
        }
        EDGES.fine(x, "BARRED: by none", x.by(4), 0);
        EDGES.fine(x, "BARRED: by another", x.by(1), 0);
    }

    private static void can() {
        EDGES.says(32, "CAN: the set of SCENES that can be SEEN; ENDINGS: the set of ENDINGS that can come.");
        OneSeat x = Check.with(STAR);
        EDGES.fine(x, "CAN", x.can(0), 31);
        EDGES.fine(x, "ENDINGS 0, 8, none", x.can(1), 769);
        x.bar(3, true);
        EDGES.fine(x, "SLEEP is BARRED", x.can(0), 23);
        EDGES.fine(x, "ENDING 5, too", x.can(1), 801);
        x.bar(2, true);
        EDGES.fine(x, "LAUGH, too: none can't come", x.can(1), 289);
        OneSeat y = Check.with(ALONE + "scene b lines 1 ends 7;");
        EDGES.fine(y, "no way leads to SCENE 0", y.can(0), 2);
        EDGES.fine(y, "ENDING 7 alone", y.can(1), 128);
        OneSeat z = Check.with("role r; scene a lines 1 with r ends 1; scene b lines 1 then a kills r;");
        EDGES.fine(z, "KILLED ahead of it always", z.can(0), 2);
        EDGES.fine(z, "none alone", z.can(1), 512);
    }

    private static void by() {
        EDGES.says(33, "BY: the set of ENDINGS that can come in a NIGHT in which a SCENE was SEEN.");
        OneSeat x = Check.with(STAR);
        int[] due = {1, 256, 512, 1, 769};
        for (int scene = 0; scene < 5; scene++) {
            EDGES.fine(x, "scene " + scene, x.by(scene), due[scene]);
        }
        x.bar(1, true);
        EDGES.fine(x, "BARRED: not SEEN", x.by(1), 0);
        EDGES.fine(x, "over behind the FIRST", x.by(4), 545);
        OneSeat y = Check.with(ALONE + "scene b lines 1 ends 7;");
        EDGES.fine(y, "no way leads to it", y.by(0), 0);
        OneSeat z = Edges.full();
        EDGES.fine(z, "turn: side's ENDING or none", z.by(3), 516);
        EDGES.fine(z, "FIRST: all", z.by(4), 526);
    }

    private static void fewest() {
        EDGES.says(34, "FEWEST: the fewest NIGHTS, whatever the spectators do, by which all is SEEN that CAN be.");
        OneSeat x = Check.with(ALONE);
        EDGES.fine(x, "one SCENE", x.fewest(), 1);
        OneSeat y = Check.with(ALONE + "scene b lines 1;");
        EDGES.fine(y, "what can't be SEEN is left out", y.fewest(), 1);
        OneSeat two = Check.with(ALONE + "scene b lines 1 tear a;");
        EDGES.fine(two, "FIRST and SCENE 0", two.fewest(), 1);
        OneSeat z = Check.with(STAR);
        EDGES.fine(z, "a star", z.fewest(), 4);
        for (int k = 0; k < 4; k++) {
            z.bar(k, true);
            EDGES.fine(z, "a star with some BARRED: " + k, z.fewest(), Math.max(1, 3 - k));
        }
        Check.night(z, "");
        z.bar(0, false);
        z.bar(1, false);
        EDGES.fine(z, "what the BOOK has does not count", z.fewest(), 2);
        // the longest row alone would leave two apart: {f,e,d,c}, {f,e,b}, {f,d,a}
        OneSeat g = Check.with("scene a lines 1; scene b lines 1; scene c lines 1; scene d lines 1 then c tear a; scene e lines 1 then d tear b;"
            + "scene f lines 1 then e tear d;");
        EDGES.fine(g, "three ends", g.fewest(), 3);
        // g f e a, g d c b are two; g b a, which begins with SCENE 0 too, would need g d c and g f e
        OneSeat h = Check.with("role r; scene a lines 1 with r; scene b lines 1 tear a; scene c lines 1 tear b kills r; scene d lines 1 then c;"
            + "scene e lines 1 tear a; scene f lines 1 then e; scene g lines 1 then f tear d laugh b;");
        EDGES.fine(h, "two, though others have three", h.fewest(), 2);
    }

    private static void fewestTheMost() {
        EDGES.says(34, "SCENES, at most 12");
        // a tree: FIRST leads to three, which lead to eight ends together
        OneSeat x = Check.with("scene a lines 1;scene b lines 1;scene c lines 1;scene d lines 1;scene e lines 1;scene f lines 1;scene g lines 1;"
            + "scene h lines 1;scene i lines 1 then a tear b laugh c sleep d;scene j lines 1 then e tear f;scene k lines 1 then g tear h;"
            + "scene l lines 1 then i tear j laugh k;");
        EDGES.fine(x, "eight ends", x.fewest(), 8);
        EDGES.fine(x, "eight rows", x.ways(), 8);
        OneSeat y = Check.with(ladder(ALONE, "then", "tear", "laugh", "sleep"));
        EDGES.fine(y, "one row has all", y.fewest(), 1);
        y.bar(10, true);
        EDGES.fine(y, "without k", y.fewest(), 1);
        y.bar(10, false);
        y.bar(4, true);
        EDGES.fine(y, "without e", y.fewest(), 1);
    }

    private static void row(OneSeat x, int ending, int... deeds) {
        EDGES.fine(x, "steer " + ending, x.steer(ending), deeds.length);
        for (int k = 0; k < deeds.length; k++) {
            EDGES.fine(x, "steer " + ending + " at " + k, x.steerAt(k), deeds[k]);
        }
        EDGES.no(x, 8, "steer " + ending + " has no more", x.steerAt(deeds.length));
    }

    private static void steerRefused() {
        EDGES.says(35, "how many SCENES it takes (5; 8: it can't come)");
        EDGES.refused(5, "ending -1", x -> x.steer(-1));
        EDGES.refused(5, "ending 10", x -> x.steer(10));
        EDGES.refused(5, "5 ahead of 8", BARRED, x -> x.steer(10));
        for (int far : Edges.FAR_OFF) {
            EDGES.refused(5, "ending " + far, x -> x.steer(far));
        }
        EDGES.refused(8, "an ENDING of no SCENE", x -> x.steer(0));
        EDGES.refused(8, "an ENDING of a BARRED SCENE", x -> x.steer(4));
        EDGES.refused(8, "BARRED", BARRED, x -> x.steer(1));
        EDGES.refused(8, "BARRED: none", BARRED, x -> x.steer(9));
        EDGES.refused(8, "no SCENES", NO_SCENES, x -> x.steer(9));
        EDGES.refused(8, "none: each last SCENE has one", x -> x.bar(3, true), x -> x.steer(9));
    }

    private static void steer() {
        EDGES.says(35, "STEERING to an ENDING (0 to 8; 9: none)");
        OneSeat x = Check.with(STAR);
        row(x, 0, 0, 0);
        row(x, 8, 1, 0);
        row(x, 9, 2, 0);
        x.bar(3, true);
        row(x, 5, 3);
        x.bar(0, true);
        row(x, 5, 0);
        OneSeat y = Check.with(ALONE);
        row(y, 9, 0);
        OneSeat z = Check.with(ladder("scene a lines 1 ends 8;", "then", "tear", "laugh", "sleep"));
        row(z, 8, 2, 3, 3, 0);
        StringBuilder b = new StringBuilder("scene a lines 1 ends 3;");
        for (char c = 'b'; c < 'm'; c++) {
            b.append("scene ").append(c).append(" lines 1 sleep ").append((char) (c - 1)).append(';');
        }
        OneSeat far = Check.with(b.toString());
        row(far, 3, 3, 3, 3, 3, 3, 3, 3, 3, 3, 3, 3, 0);
        row(far, 9, 0);
    }

    private static void steerLeast() {
        EDGES.says(35, "after the fewest SCENES: of several rows the least (0 ahead of 1 .., SCENE by SCENE)");
        OneSeat x = Check.with("scene a lines 1 ends 1; scene b lines 1 then a; scene c lines 1 sleep a; scene d lines 1 then b tear c laugh a;");
        row(x, 1, 2, 0);
        x.bar(0, true);
        EDGES.no(x, 8, "it can't come", x.steer(1));
        OneSeat y = Check.with("scene a lines 1 ends 1; scene b lines 1 then a; scene c lines 1 sleep a; scene d lines 1 tear c laugh b;");
        row(y, 1, 1, 3, 0);
        OneSeat z = Check.with("scene a lines 1 ends 1; scene b lines 1 then a; scene c lines 1 then b laugh a; scene d lines 1 then c tear c laugh b sleep b;");
        row(z, 1, 0, 2, 0);
        // over at once: the least deed that leads nowhere
        OneSeat w = Check.with("scene a lines 1; scene b lines 1; scene c lines 1 ends 2 tear a laugh b;");
        row(w, 2, 0);
        OneSeat v = Check.with("scene a lines 1; scene b lines 1; scene c lines 1 ends 2 then b tear a laugh a;");
        EDGES.no(v, 8, "it always goes on", v.steer(2));
        v.bar(0, true);
        row(v, 2, 1);
    }

    private static void steerKilled() {
        EDGES.says(35, "so that a NIGHT has an ENDING after the fewest SCENES");
        // d KILLS r: behind it b is over at b, as a has r; c goes to a
        OneSeat x = Check.with("role r; scene a lines 1 with r ends 1; scene b lines 1 ends 2 then a; scene c lines 1 then b;"
            + "scene d lines 1 then c kills r; scene e lines 1 then d tear c;");
        row(x, 2, 0, 0, 0, 0);
        row(x, 1, 1, 0, 0, 0);
        x.kill(0, true);
        row(x, 2, 1, 0, 0);
        EDGES.no(x, 8, "its ROLE is DEAD", x.steer(1));
        // e KILLS r, who is still KILLED three SCENES later, behind another KILL: the CURTAIN falls by a TEAR alone
        OneSeat y = Check.with("role q; role r; scene z lines 1; scene a lines 1 with r; scene b lines 1 ends 6 then z tear a;"
            + "scene c lines 1 then b kills q; scene d lines 1 then c; scene e lines 1 then d kills r;");
        row(y, 6, 0, 0, 0, 1);
    }

    private static void steerAt() {
        EDGES.says(36, "What is to be done behind its k-th SCENE (0 ..), by steer() latest with STATUS 0 (8: none such).");
        EDGES.refused(8, "SCENE -1", x -> x.steerAt(-1));
        EDGES.refused(8, "just behind the last", x -> x.steerAt(2));
        EDGES.refused(8, "SCENE 12", x -> x.steerAt(12));
        for (int far : Edges.FAR_OFF) {
            EDGES.refused(8, "SCENE " + far, x -> x.steerAt(far));
        }
        OneSeat x = Check.with(STAR);
        EDGES.no(x, 8, "ahead of any", x.steerAt(0));
        x.steer(1);
        EDGES.no(x, 8, "ahead of any with STATUS 0", x.steerAt(0));
        x.steer(8);
        x.steer(1);
        x.steer(-1);
        EDGES.fine(x, "the latest with STATUS 0", x.steerAt(0), 1);
        x.bar(3, true);
        row(x, 5, 3);
        EDGES.no(x, 8, "a shorter one leaves none of the longer", x.steerAt(1));
    }

    /** Nothing of a larger STAGE may be left behind. */
    private static void fewerBehindMore() {
        EDGES.says(31, "A STAGE that is taken is there in place of that ahead");
        OneSeat x = Check.with(ladder(ALONE, "tear", "laugh", "sleep"));
        EDGES.fine(x, "rows of the larger", x.ways(), 1104);
        Check.stage(x, "scene a lines 1; scene b lines 1 then a; scene c lines 1 then b;");
        EDGES.fine(x, "SHORTEST", x.length(1), 3);
        x.stage(0);
        Check.stage(x, ladder(ALONE, "tear", "laugh", "sleep"));
        x.ways();
        Check.stage(x, ALONE);
        EDGES.fine(x, "LONGEST", x.length(0), 1);
        EDGES.fine(x, "CAN", x.can(0), 1);
        EDGES.says(34, "A STAGE that is taken is there in place of that ahead");
        OneSeat y = Check.with("scene a lines 1; scene b lines 1 then a; scene c lines 1 then b tear a;");
        EDGES.fine(y, "FEWEST of the larger", y.fewest(), 1);
        Check.stage(y, "scene a lines 1; scene b lines 1; scene c lines 1 then b tear a;");
        EDGES.fine(y, "FEWEST", y.fewest(), 2);
        EDGES.says(35, "A STAGE that is taken is there in place of that ahead");
        OneSeat z = Check.with("scene a lines 1; scene b lines 1; scene c lines 1 then a; scene d lines 1 then c tear b laugh a;");
        row(z, 9, 1, 0);
        Check.stage(z, "scene a lines 1 ends 1; scene b lines 1 then a; scene c lines 1; scene d lines 1 then c tear b;");
        row(z, 1, 1, 0, 0);
    }
}
