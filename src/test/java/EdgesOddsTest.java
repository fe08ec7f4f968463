/** Boundary cases of promises 26 to 29: odds, WHO, MEAN. */
public final class EdgesOddsTest {
    private static final Edges EDGES = new Edges();
    private static final String IDLE = "kind k lots 1 tears 0 laughs 0 sleeps 0;";
    private static final String NO_KINDS = "role a; scene s lines 1 with a;";
    private static final String NO_SCENES = "role a; " + IDLE;
    /** FIRST is the last SCENE of full(); b is in it. */
    private static final Edges.Turn BARRED = x -> x.bar(4, true);
    private static final Edges.Turn DEAD = x -> x.kill(1, true);
    private static final Edges.Turn NO_KINDS_BARRED = x -> {
        Edges.staged(NO_KINDS).on(x);
        x.bar(0, true);
    };

    public static void main(String[] args) {
        oddsRefused();
        oddsOrder();
        oddsOfAll();
        oddsAreExact();
        oddsAsTheStageIsNow();
        seenRefused();
        seen();
        whoRefused();
        who();
        whoNever();
        meanRefused();
        mean();
        meanTheMost();
        EDGES.finish(26, 29);
    }

    private static void oddsRefused() {
        EDGES.says(26, "(2; 5; 8: by LOT without KINDS; 9: nothing can be played)");
        EDGES.denied(2, "kind -2", x -> x.odds(1, -2));
        EDGES.denied(2, "just behind the last kind", x -> x.odds(1, 2));
        EDGES.denied(5, "ending -1", x -> x.odds(-1, 0));
        EDGES.denied(5, "ending 10", x -> x.odds(10, 0));
        EDGES.denied(5, "ending 10 by LOT", x -> x.odds(10, -1));
        for (int far : Edges.FAR_OFF) {
            EDGES.denied(2, "kind " + far, x -> x.odds(1, far));
            EDGES.denied(5, "ending " + far, x -> x.odds(far, 0));
        }
        EDGES.denied(8, "no KINDS", Edges.staged(NO_KINDS), x -> x.odds(9, -1));
        EDGES.denied(9, "BARRED", BARRED, x -> x.odds(1, 0));
        EDGES.denied(9, "BARRED, by LOT", BARRED, x -> x.odds(9, -1));
        EDGES.denied(9, "DEAD", DEAD, x -> x.odds(1, 1));
        EDGES.denied(9, "no SCENES", Edges.staged(NO_SCENES), x -> x.odds(9, -1));
    }

    private static void oddsOrder() {
        EDGES.says(26, "STATUS of a call is the first of these that holds");
        EDGES.denied(2, "2 ahead of 5", x -> x.odds(10, 2));
        EDGES.denied(2, "2 ahead of 8", Edges.staged(NO_KINDS), x -> x.odds(9, 0));
        EDGES.denied(2, "2 ahead of 9", BARRED, x -> x.odds(1, -2));
        EDGES.denied(5, "5 ahead of 8", Edges.staged(NO_KINDS), x -> x.odds(10, -1));
        EDGES.denied(5, "5 ahead of 9", BARRED, x -> x.odds(-1, 0));
        EDGES.denied(8, "8 ahead of 9", NO_KINDS_BARRED, x -> x.odds(9, -1));
    }

    private static void oddsOfAll() {
        EDGES.says(26, "of an ENDING (or none: 9) for a KIND, or by LOT (a KIND told as NONE: by all LOTS)");
        OneSeat x = Check.with("scene a lines 1 ends 0; scene b lines 1 ends 8; scene c lines 1; scene d lines 1 ends 5;"
            + "scene e lines 1 then a tear b laugh c sleep d;"
            + "kind ka lots 30 tears 1 laughs 0 sleeps 0; kind kb lots 1 tears 16 laughs 0 sleeps 0;"
            + "kind kc lots 1 tears 0 laughs 15 sleeps 1;");
        EDGES.told(x, "ENDING 0 for KIND 0", x.odds(0, 0), 15, 16);
        EDGES.told(x, "ENDING 8 for KIND 0", x.odds(8, 0), 1, 16);
        EDGES.told(x, "none for KIND 0", x.odds(9, 0), 0, 1);
        EDGES.told(x, "ENDING 8 for KIND 1", x.odds(8, 1), 1, 1);
        EDGES.told(x, "ENDING 0 for KIND 1", x.odds(0, 1), 0, 1);
        EDGES.told(x, "none for the last KIND", x.odds(9, 2), 15, 16);
        EDGES.told(x, "ENDING 5 for the last KIND", x.odds(5, 2), 1, 16);
        EDGES.told(x, "ENDING 0 by LOT", x.odds(0, -1), 225, 256);
        EDGES.told(x, "ENDING 8 by LOT", x.odds(8, -1), 23, 256);
        EDGES.told(x, "ENDING 5 by LOT", x.odds(5, -1), 1, 512);
        EDGES.told(x, "none by LOT", x.odds(9, -1), 15, 512);
        EDGES.told(x, "an ENDING of no SCENE", x.odds(3, -1), 0, 1);
    }

    /** Twelve SCENES in a row, each by a TEAR: SCENE 0 has an ENDING of its own. */
    private static String row(String scene, String kinds) {
        StringBuilder b = new StringBuilder("role r; scene a " + scene + " ends 0;");
        for (char c = 'b'; c < 'm'; c++) {
            b.append("scene ").append(c).append(' ').append(scene).append(" tear ").append((char) (c - 1)).append(';');
        }
        return b + kinds;
    }

    private static void oddsAreExact() {
        EDGES.says(26, "by KINDS' sixteenths, exact");
        OneSeat x = Check.with(row("lines 1", "kind ka lots 1 tears 1 laughs 0 sleeps 0; kind kb lots 30 tears 15 laughs 1 sleeps 0;"));
        long all = 1L << 44;
        EDGES.told(x, "one of 16 to the 11th", x.odds(0, 0), 1, all);
        EDGES.told(x, "all others", x.odds(9, 0), all - 1, all);
        EDGES.told(x, "15 to the 11th", x.odds(0, 1), 8649755859375L, all);
        // (1 + 30 * 15^11) / (31 * 16^11); 1 + 30 * 15^11 has no divisor with the bottom
        EDGES.told(x, "by LOT", x.odds(0, -1), 259492675781251L, 31 * all);
        EDGES.told(x, "none by LOT", x.odds(9, -1), 31 * all - 259492675781251L, 31 * all);
    }

    private static void oddsAsTheStageIsNow() {
        EDGES.says(26, "ODDS are told as the STAGE is now (BARRED, DEAD)");
        OneSeat x = Edges.full();
        EDGES.told(x, "odd is BARRED", x.odds(3, 1), 1, 2);
        x.bar(0, false);
        EDGES.told(x, "odd has d, who is DEAD", x.odds(3, 1), 1, 2);
        x.kill(3, false);
        EDGES.told(x, "neither", x.odds(3, 1), 0, 1);
        EDGES.told(x, "it ends with 4", x.odds(4, 1), 1, 2);
        x.kill(0, true);
        EDGES.told(x, "a, in low and turn, is DEAD", x.odds(3, -1), 9, 16);
        x.bar(2, true);
        EDGES.told(x, "side is BARRED, too", x.odds(3, 0), 1, 1);
        EDGES.told(x, "nobody is KILLED by odds", x.odds(3, -1), 5, 8);
    }

    private static void seenRefused() {
        EDGES.says(27, "The FRACTION is the odds that a SCENE is SEEN (2; 8; 9).");
        EDGES.denied(2, "scene -1", x -> x.seen(-1, 0));
        EDGES.denied(2, "just behind the last scene", x -> x.seen(5, 0));
        EDGES.denied(2, "kind -2", x -> x.seen(0, -2));
        EDGES.denied(2, "just behind the last kind", x -> x.seen(0, 2));
        EDGES.denied(2, "no such scene by LOT", x -> x.seen(5, -1));
        for (int far : Edges.FAR_OFF) {
            EDGES.denied(2, "scene " + far, x -> x.seen(far, 0));
            EDGES.denied(2, "kind " + far, x -> x.seen(0, far));
        }
        EDGES.denied(8, "no KINDS", Edges.staged(NO_KINDS), x -> x.seen(0, -1));
        EDGES.denied(9, "BARRED", BARRED, x -> x.seen(4, 0));
        EDGES.denied(9, "DEAD, by LOT", DEAD, x -> x.seen(2, -1));
        EDGES.denied(2, "2 ahead of 8", Edges.staged(NO_KINDS), x -> x.seen(1, -1));
        EDGES.denied(2, "2 ahead of 9", BARRED, x -> x.seen(4, 2));
        EDGES.denied(2, "2 ahead of 9: no SCENES", Edges.staged(NO_SCENES), x -> x.seen(0, -1));
        EDGES.denied(8, "8 ahead of 9", NO_KINDS_BARRED, x -> x.seen(0, -1));
    }

    private static void seen() {
        EDGES.says(27, "that a SCENE is SEEN");
        OneSeat x = Edges.full();
        EDGES.told(x, "FIRST: sure", x.seen(4, 0), 1, 1);
        EDGES.told(x, "FIRST by LOT: sure", x.seen(4, -1), 1, 1);
        EDGES.told(x, "BARRED: never", x.seen(0, 1), 0, 1);
        EDGES.told(x, "by two ways", x.seen(1, 0), 1, 4);
        EDGES.told(x, "by LOT", x.seen(1, -1), 7, 16);
        OneSeat y = Check.with("scene a lines 1; scene b lines 1; scene c lines 1 then a; " + IDLE);
        EDGES.told(y, "no way leads there", y.seen(1, 0), 0, 1);
        OneSeat z = Check.with(row("lines 1", "kind ka lots 1 tears 1 laughs 0 sleeps 0;"));
        for (int scene = 0; scene < 12; scene++) {
            EDGES.told(z, "one way on " + scene, z.seen(scene, -1), 1, 1L << 44 - 4 * scene);
        }
    }

    private static void whoRefused() {
        EDGES.says(28, "The FRACTION is WHO: that a KIND was there (2; 5; 8: that ENDING can't come).");
        EDGES.denied(2, "kind NONE", x -> x.who(-1, 1));
        EDGES.denied(2, "just behind the last kind", x -> x.who(2, 1));
        EDGES.denied(5, "ending -1", x -> x.who(0, -1));
        EDGES.denied(5, "ending 10", x -> x.who(0, 10));
        for (int far : Edges.FAR_OFF) {
            EDGES.denied(2, "kind " + far, x -> x.who(far, 1));
            EDGES.denied(5, "ending " + far, x -> x.who(0, far));
        }
        EDGES.denied(8, "an ENDING that never comes", x -> x.who(0, 8));
        EDGES.denied(8, "an ENDING of a BARRED SCENE", x -> x.who(1, 4));
        EDGES.denied(8, "BARRED", BARRED, x -> x.who(0, 1));
        EDGES.denied(8, "none, BARRED", BARRED, x -> x.who(0, 9));
        EDGES.denied(2, "2 ahead of 5", x -> x.who(2, 10));
        EDGES.denied(2, "2 ahead of 8", x -> x.who(2, 8));
        EDGES.denied(2, "no KINDS", Edges.staged(NO_KINDS), x -> x.who(0, 9));
        EDGES.denied(5, "5 ahead of 8", BARRED, x -> x.who(0, 10));
    }

    private static void who() {
        EDGES.says(28, "that somebody is of a KIND, if an ENDING came by LOT (WHO)");
        OneSeat x = Check.with("scene a lines 1 ends 0; scene b lines 1 ends 8; scene c lines 1 then a tear b;"
            + "kind ka lots 30 tears 1 laughs 0 sleeps 0; kind kb lots 2 tears 15 laughs 1 sleeps 0; kind kc lots 7 tears 0 laughs 0 sleeps 16;");
        EDGES.told(x, "KIND 0, by 0", x.who(0, 0), 75, 94);
        EDGES.told(x, "KIND 1, by 0", x.who(1, 0), 1, 282);
        EDGES.told(x, "KIND 2, by 0", x.who(2, 0), 28, 141);
        EDGES.told(x, "KIND 0, by 8", x.who(0, 8), 1, 2);
        EDGES.told(x, "KIND 2, by 8: never", x.who(2, 8), 0, 1);
        x.bar(0, true);
        EDGES.told(x, "none: 9", x.who(2, 9), 28, 141);
        OneSeat y = Check.with("scene a lines 1 ends 0; " + IDLE);
        EDGES.told(y, "one KIND alone: sure", y.who(0, 0), 1, 1);
    }

    private static void whoNever() {
        EDGES.says(28, "8: that ENDING can't come");
        // a spectator who sheds TEARS would see it, but there is none such
        OneSeat x = Check.with("scene a lines 1 ends 1; scene b lines 1 ends 2 tear a;" + IDLE);
        EDGES.no(x, 8, "nobody sheds TEARS", x.who(0, 1));
        EDGES.told(x, "the other one", x.who(0, 2), 1, 1);
        EDGES.no(x, 8, "none: all have one", x.who(0, 9));
    }

    private static void meanRefused() {
        EDGES.says(29, "The FRACTION is MEAN (2; 8; 9).");
        EDGES.denied(2, "kind -2", x -> x.mean(-2));
        EDGES.denied(2, "just behind the last kind", x -> x.mean(2));
        for (int far : Edges.FAR_OFF) {
            EDGES.denied(2, "kind " + far, x -> x.mean(far));
        }
        EDGES.denied(8, "no KINDS", Edges.staged(NO_KINDS), x -> x.mean(-1));
        EDGES.denied(9, "BARRED", BARRED, x -> x.mean(0));
        EDGES.denied(9, "DEAD, by LOT", DEAD, x -> x.mean(-1));
        EDGES.denied(9, "no SCENES", Edges.staged(NO_SCENES), x -> x.mean(0));
        EDGES.denied(2, "2 ahead of 8", Edges.staged(NO_KINDS), x -> x.mean(0));
        EDGES.denied(2, "2 ahead of 9", BARRED, x -> x.mean(2));
        EDGES.denied(8, "8 ahead of 9", NO_KINDS_BARRED, x -> x.mean(-1));
    }

    private static void mean() {
        EDGES.says(29, "MEAN of BREATHS of a NIGHT");
        OneSeat x = Edges.full();
        EDGES.told(x, "KIND 0", x.mean(0), 14, 1);
        EDGES.told(x, "KIND 1", x.mean(1), 9, 1);
        EDGES.told(x, "by LOT", x.mean(-1), 41, 4);
        OneSeat y = Check.with("role a; scene s lines 20; kind k lots 3 tears 1 laughs 0 sleeps 0;");
        EDGES.told(y, "LINES without ROLES", y.mean(0), 0, 1);
        OneSeat z = Check.with(row("lines 1 with r", "kind ka lots 30 tears 1 laughs 0 sleeps 0;"));
        // 1 + 1/16 + .. + 1/16^11
        EDGES.told(z, "a long sum", z.mean(0), ((1L << 48) - 1) / 15, 1L << 44);
    }

    private static void meanTheMost() {
        EDGES.says(29, "SCENES, at most 12: how many LINES (1 to 20), a breath each for each ROLE in it");
        StringBuilder b = new StringBuilder("role m;role n;role o;role p;role q;role r; scene a lines 20 with m n o p q r;");
        for (char c = 'b'; c < 'm'; c++) {
            b.append("scene ").append(c).append(" lines 20 with m n o p q r then ").append((char) (c - 1)).append(';');
        }
        for (char c = 'a'; c < 'e'; c++) {
            b.append("kind k").append(c).append(" lots 30 tears 16 laughs 0 sleeps 0;");
        }
        OneSeat x = Check.with(b.toString());
        EDGES.told(x, "the most BREATHS", x.mean(0), 1440, 1);
        EDGES.told(x, "the most BREATHS by the most LOTS", x.mean(-1), 1440, 1);
        EDGES.told(x, "WHO of the most LOTS", x.who(3, 9), 1, 4);
    }
}
