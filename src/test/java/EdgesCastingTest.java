/** Boundary cases of promises 37 to 40: DEATH that DOES the most, CASTING, BREATHS of a ROLE. */
public final class EdgesCastingTest {
    private static final Edges EDGES = new Edges();
    private static final String IDLE = "kind k lots 1 tears 0 laughs 0 sleeps 0;";
    private static final String RICH = " pay 1 breath 999;";

    public static void main(String[] args) {
        deathRefused();
        death();
        deathOfAlmostNothing();
        deathOfTheDead();
        deathWithoutANight();
        castRefused();
        castCanNotBe();
        castBreaths();
        castApart();
        castCanNotPlay();
        castPay();
        castFirstOfTheBest();
        castMost();
        castAtRefused();
        castAt();
        breathsRefused();
        breaths();
        EDGES.finish(37, 40);
    }

    private static void death(OneSeat x, int ending, int role, long top, long bottom) {
        EDGES.fine(x, "death " + ending, x.death(ending), role);
        EDGES.due("death " + ending + " top", x.top(), top);
        EDGES.due("death " + ending + " bottom", x.bottom(), bottom);
    }

    private static void deathRefused() {
        EDGES.says(37, "(5; 8: none changes it, no KINDS)");
        EDGES.refused(5, "ending -1", x -> x.death(-1));
        EDGES.refused(5, "ending 10", x -> x.death(10));
        for (int far : Edges.FAR_OFF) {
            EDGES.refused(5, "ending " + far, x -> x.death(far));
        }
        Edges.Turn noKinds = Edges.staged("role a; scene s lines 1 with a ends 1;");
        EDGES.refused(8, "none changes it", x -> x.death(0));
        EDGES.refused(8, "it never comes, odd is BARRED", x -> x.death(4));
        EDGES.refused(8, "no KINDS", noKinds, x -> x.death(1));
        EDGES.refused(5, "5 ahead of 8", noKinds, x -> x.death(10));
        EDGES.refused(8, "no ROLES", Edges.staged("scene s lines 1 ends 1;" + IDLE), x -> x.death(1));
        EDGES.refused(8, "no SCENES", Edges.staged("role a;" + IDLE), x -> x.death(9));
        EDGES.refused(8, "nobody is in it", Edges.staged("role a; scene s lines 1 ends 1;" + IDLE), x -> x.death(1));
    }

    private static void death() {
        EDGES.says(37, "the ROLE (not DEAD) whose DEATH from now on would change the odds of an ENDING by LOT the most (either way; all are 0 if nothing can be played then): of several the first.");
        OneSeat x = Edges.full();
        death(x, 1, 0, 7, 16);
        death(x, 2, 1, 1, 8);
        death(x, 9, 0, 1, 16);
        EDGES.fine(x, "nobody is DEAD by that", x.many(6), 8);
        // up: q's DEATH makes 2 sure; down: p's and q's make 1 less; none can be played without s
        OneSeat y = Check.with("role p; role q; role s; scene a lines 1 with p ends 1; scene b lines 1 with q ends 1; scene c lines 1 with s ends 2 then b tear a;"
            + "kind k lots 9 tears 4 laughs 0 sleeps 0;");
        death(y, 1, 2, 1, 1);
        death(y, 2, 1, 3, 4);
        OneSeat z = Check.with("role p; role q; scene a lines 1 with p q ends 1; scene b lines 1 ends 2 then a;" + IDLE);
        death(z, 1, 0, 1, 1);
        death(z, 2, 0, 1, 1);
        // all are 0 if nothing can be played then: the none, too
        OneSeat w = Check.with("role p; role q; scene a lines 1 with q;" + IDLE);
        death(w, 9, 1, 1, 1);
        OneSeat v = Check.with("role p; role q; scene a lines 1 with q ends 0;" + IDLE);
        death(v, 0, 1, 1, 1);
        EDGES.no(v, 8, "none: it is 0 before and then", v.death(9));
    }

    private static void deathOfAlmostNothing() {
        EDGES.says(37, "would change the odds of an ENDING by LOT the most");
        StringBuilder b = new StringBuilder("role m; role n; role o; role p; role q; role r; scene a lines 1 with r ends 0;");
        for (char c = 'b'; c < 'm'; c++) {
            b.append("scene s").append(c).append(" lines 1 tear ").append(c == 'b' ? "" : "s").append((char) (c - 1)).append(';');
        }
        OneSeat x = Check.with(b + "kind k lots 1 tears 1 laughs 0 sleeps 0;");
        death(x, 0, 5, 1, 1L << 44);
        death(x, 9, 5, 1, 1L << 44);
    }

    private static void deathOfTheDead() {
        EDGES.says(37, "the ROLE (not DEAD)");
        OneSeat x = Check.with("role p; role q; scene a lines 1 with p ends 1; scene b lines 1 with q ends 2 then a; scene c lines 1 ends 3 then b;" + IDLE);
        death(x, 3, 1, 1, 1);
        x.kill(0, true);
        death(x, 2, 1, 1, 1);
        EDGES.no(x, 8, "p is DEAD already", x.death(1));
        x.kill(1, true);
        EDGES.no(x, 8, "all are DEAD", x.death(3));
        EDGES.due("the FRACTION stays", x.bottom(), 1);
        // KILLED in each NIGHT ahead of it: her DEATH makes no odds
        OneSeat y = Check.with("role p; scene a lines 1 with p ends 1; scene b lines 1 ends 2 then a kills p;" + IDLE);
        EDGES.no(y, 8, "KILLED always", y.death(2));
    }

    private static void deathWithoutANight() {
        EDGES.says(37, "all are 0 if nothing can be played then");
        EDGES.refused(8, "BARRED", x -> x.bar(4, true), x -> x.death(1));
        EDGES.refused(8, "BARRED, none", x -> x.bar(4, true), x -> x.death(9));
        EDGES.refused(8, "DEAD", x -> x.kill(1, true), x -> x.death(2));
    }

    private static void cast(OneSeat x, int nights, int pay, int... by) {
        EDGES.fine(x, "cast " + nights, x.cast(nights), pay);
        for (int role = 0; role < 6; role++) {
            if (role < by.length && by[role] >= 0) {
                EDGES.fine(x, "cast " + nights + " role " + role, x.castAt(role), by[role]);
            } else {
                EDGES.no(x, 8, "cast " + nights + " role " + role, x.castAt(role));
            }
        }
    }

    private static void castRefused() {
        EDGES.says(38, "CASTING for so many NIGHTS (1 to 7): PAY (5; 8: no ROLE is in a SCENE; 9: it can't be).");
        EDGES.refused(5, "no NIGHTS", x -> x.cast(0));
        EDGES.refused(5, "8 NIGHTS", x -> x.cast(8));
        EDGES.refused(5, "-1", x -> x.cast(-1));
        for (int far : Edges.FAR_OFF) {
            EDGES.refused(5, "NIGHTS " + far, x -> x.cast(far));
        }
        Edges.Turn nobody = Edges.staged("role a; actor x pay 1 breath 9; scene s lines 1;");
        EDGES.refused(8, "no ROLE is in a SCENE", nobody, x -> x.cast(1));
        EDGES.refused(8, "no SCENE", Edges.staged("role a;"), x -> x.cast(1));
        EDGES.refused(8, "nothing at all", Edges.staged(""), x -> x.cast(7));
        EDGES.refused(5, "5 ahead of 8", nobody, x -> x.cast(8));
        EDGES.refused(5, "5 ahead of 9", Edges.staged("role a; scene s lines 1 with a;"), x -> x.cast(0));
        EDGES.refused(8, "8 ahead of 9", Edges.staged("role a; scene s lines 1;"), x -> x.cast(1));
        OneSeat x = Check.with("role a; role b;" + "actor x pay 2 breath 99; scene s lines 3 with a; scene t lines 1;");
        cast(x, 1, 6, 0);
        cast(x, 7, 42, 0);
    }

    private static void castCanNotBe() {
        EDGES.says(38, "9: it can't be");
        EDGES.refused(9, "no ACTORS", Edges.staged("role a; scene s lines 1 with a;"), x -> x.cast(1));
        EDGES.refused(9, "one ACTOR for two in one SCENE", Edges.staged("role a; role b; actor x" + RICH + "scene s lines 1 with a b;"), x -> x.cast(1));
        EDGES.refused(9, "nobody can play it", Edges.staged("role a; actor x pay 1 breath 9 not a; scene s lines 1 with a;"), x -> x.cast(1));
        EDGES.refused(9, "the last ROLE alone can't be", Edges.staged("role a; role b; actor x pay 1 breath 99 not b; scene s lines 1 with a; scene t lines 1 with b;"), x -> x.cast(1));
        EDGES.refused(9, "a breath too few", Edges.staged("role a; actor x pay 1 breath 6; scene s lines 1 with a;"), x -> x.cast(7));
        EDGES.refused(9, "three NIGHTS of full()", x -> x.cast(3));
    }

    private static void castBreaths() {
        EDGES.says(38, "and no more BREATHS than it has");
        OneSeat x = Check.with("role a; actor x pay 3 breath 7; scene s lines 1 with a;");
        cast(x, 7, 21, 0);
        OneSeat y = Check.with("role a; role b; role c; actor x pay 1 breath 6; actor y pay 2 breath 6; scene s lines 3 with a; scene t lines 3 with b; scene u lines 1 with c;");
        // x has just enough for two of three; the third is y's
        cast(y, 1, 8, 0, 0, 1);
        EDGES.no(y, 9, "two NIGHTS are too many", y.cast(2));
        OneSeat z = Check.with("role a; actor x pay 1 breath 0; actor y pay 9 breath 1; scene s lines 1 with a;");
        cast(z, 1, 9, 1);
        EDGES.says(38, "BREATHS of a ROLE: LINES of all SCENES it is in, as often as told NIGHTS (1 to 7) each");
        OneSeat w = Check.with("role a; actor x pay 1 breath 29; actor y pay 7 breath 999; scene s lines 10 with a; scene t lines 9; scene u lines 5 with a;");
        cast(w, 1, 15, 0);
        cast(w, 2, 210, 1);
        w.bar(0, true);
        w.kill(0, true);
        cast(w, 2, 210, 1);
    }

    private static void castApart() {
        EDGES.says(38, "no two that are in one SCENE");
        OneSeat x = Check.with("role a; role b; role c; actor x pay 1 breath 999; actor y pay 2 breath 999; scene s lines 1 with a; scene t lines 1 with b; scene u lines 1 with c;");
        EDGES.says(38, "an ACTOR plays as many ROLES as it likes");
        cast(x, 1, 3, 0, 0, 0);
        EDGES.says(38, "no two that are in one SCENE");
        // c is with a, whom x plays ahead of b
        OneSeat y = Check.with("role a; role b; role c; actor x pay 1 breath 999; actor y pay 2 breath 999; scene s lines 1 with a; scene t lines 1 with b; scene u lines 1 with a c;");
        cast(y, 1, 5, 0, 0, 1);
        OneSeat z = Check.with("role a; role b; role c; role d; role e; role f; actor g" + RICH + "actor h" + RICH + "actor i" + RICH + "actor j" + RICH + "actor k" + RICH + "actor l" + RICH
            + "scene s lines 1 with a b c d e f;");
        cast(z, 1, 6, 0, 1, 2, 3, 4, 5);
        OneSeat w = Check.with("role a; role b; role c; role d; role e; role f; actor g" + RICH + "actor h" + RICH + "actor i" + RICH + "actor j" + RICH + "actor k" + RICH
            + "scene s lines 1 with a b c d e f;");
        EDGES.no(w, 9, "five for six in one SCENE", w.cast(1));
    }

    private static void castCanNotPlay() {
        EDGES.says(38, "but none that it can not");
        OneSeat x = Check.with("role a; role b; actor x pay 1 breath 999 not b; actor y pay 50 breath 999 not a; scene s lines 1 with a; scene t lines 2 with b;");
        cast(x, 1, 101, 0, 1);
        OneSeat y = Check.with("role a; role b; actor x pay 1 breath 999 not a b; actor y pay 99 breath 999; scene s lines 20 with a; scene t lines 20 with b;");
        cast(y, 7, 27720, 1, 1);
    }

    private static void castPay() {
        EDGES.says(38, "its PAY: its BREATHS by what one COSTS");
        OneSeat x = Check.with("role a; actor x pay 0 breath 999; actor y pay 0 breath 999; scene s lines 20 with a;");
        x.many(9);
        cast(x, 7, 0, 0);
        EDGES.says(38, "by the least PAY");
        OneSeat y = Check.with("role a; role b; actor x pay 99 breath 999; actor y pay 98 breath 999; actor z pay 97 breath 20; scene s lines 20 with a; scene t lines 19 with b;");
        cast(y, 1, 3802, 2, 1);
        cast(y, 2, 7644, 1, 1);
    }

    private static void castFirstOfTheBest() {
        EDGES.says(38, "The first of the best: ROLE 0 by the least ACTOR, then ROLE 1 ..");
        OneSeat x = Check.with("role a; role b; role c; actor x pay 5 breath 2; actor y pay 5 breath 2; scene s lines 1 with a; scene t lines 2 with b; scene u lines 1 with c;");
        cast(x, 1, 20, 0, 1, 0);
        OneSeat y = Check.with("role a; role b; actor w pay 9 breath 9; actor x pay 5 breath 9; actor y pay 5 breath 9; scene s lines 1 with a b;");
        cast(y, 1, 10, 1, 2);
        // a by x would cost the same as a by w, but for b
        OneSeat z = Check.with("role a; role b; actor w pay 2 breath 3; actor x pay 2 breath 1; actor y pay 3 breath 9; scene s lines 1 with a; scene t lines 3 with b;");
        cast(z, 1, 8, 1, 0);
    }

    private static void castMost() {
        EDGES.says(38, "ACTORS, at most 6: what a breath COSTS (0 to 99)");
        StringBuilder b = new StringBuilder("role a; role b; role c; role d; role e; role f;");
        for (char c = 'g'; c < 'm'; c++) {
            b.append("actor ").append(c).append(" pay ").append(99 - (c - 'g')).append(" breath 140;");
        }
        for (char c = 'a'; c < 'g'; c++) {
            b.append("scene s").append(c).append(" lines 20 with ").append(c).append(';');
        }
        OneSeat x = Check.with(b.toString());
        cast(x, 7, 140 * (99 + 98 + 97 + 96 + 95 + 94), 0, 1, 2, 3, 4, 5);
        StringBuilder twelve = new StringBuilder("role a; role b; actor x pay 2 breath 999; actor y pay 3 breath 999;");
        for (char c = 'a'; c < 'm'; c++) {
            twelve.append("scene s").append(c).append(c == 'l' ? " lines 1 with b a;" : " lines 1 with a;");
        }
        cast(Check.with(twelve.toString()), 7, 7 * 12 * 2 + 7 * 3, 0, 1);
        // 140 BREATHS are enough for two ROLES of 60: the last three ACTORS have two each
        cast(x, 3, 120 * (96 + 95 + 94), 3, 3, 4, 4, 5, 5);
    }

    private static void castAtRefused() {
        EDGES.says(39, "Who plays a ROLE, by cast() latest with STATUS 0 (5: not 0 to 5; 8: none).");
        EDGES.refused(5, "role -1", x -> x.castAt(-1));
        EDGES.refused(5, "role 6", x -> x.castAt(6));
        for (int far : Edges.FAR_OFF) {
            EDGES.refused(5, "role " + far, x -> x.castAt(far));
        }
        EDGES.refused(8, "a ROLE that is in odd alone is played, the next is none", x -> x.castAt(4));
        EDGES.refused(8, "the sixth", x -> x.castAt(5));
        OneSeat x = new OneSeat();
        for (int role = 0; role < 6; role++) {
            EDGES.no(x, 8, "ahead of any", x.castAt(role));
        }
        EDGES.no(x, 5, "ahead of any: 5 ahead of 8", x.castAt(6));
    }

    private static void castAt() {
        EDGES.says(39, "by cast() latest with STATUS 0");
        OneSeat x = Edges.full();
        EDGES.fine(x, "d, in odd alone", x.castAt(3), 1);
        cast(x, 2, 60, 2, 1, 0, 1);
        x.cast(3);
        x.cast(0);
        EDGES.fine(x, "behind 9 and 5", x.castAt(2), 0);
        x.stage(0);
        Check.stage(x, "role a; role b; actor x pay 1 breath 9; scene s lines 1 with b;");
        x.cast(1);
        EDGES.no(x, 8, "a ROLE in no SCENE", x.castAt(0));
        EDGES.fine(x, "the other one", x.castAt(1), 0);
        EDGES.no(x, 8, "no such ROLE any more", x.castAt(2));
    }

    private static void breathsRefused() {
        EDGES.says(40, "BREATHS of a ROLE for so many NIGHTS (1 to 7) (2; 5).");
        EDGES.refused(2, "role -1", x -> x.breaths(-1, 1));
        EDGES.refused(2, "just behind the last role", x -> x.breaths(4, 1));
        EDGES.refused(5, "no NIGHTS", x -> x.breaths(0, 0));
        EDGES.refused(5, "8 NIGHTS", x -> x.breaths(3, 8));
        EDGES.refused(5, "-1 NIGHTS", x -> x.breaths(0, -1));
        EDGES.refused(2, "2 ahead of 5", x -> x.breaths(4, 8));
        EDGES.refused(2, "no ROLES", Edges.staged("scene s lines 1;"), x -> x.breaths(0, 1));
        for (int far : Edges.FAR_OFF) {
            EDGES.refused(2, "role " + far, x -> x.breaths(far, 1));
            EDGES.refused(5, "NIGHTS " + far, x -> x.breaths(0, far));
        }
    }

    private static void breaths() {
        EDGES.says(40, "BREATHS of a ROLE: LINES of all SCENES it is in, as often as told NIGHTS (1 to 7) each");
        OneSeat x = Edges.full();
        int[] lines = {5, 12, 4, 1};
        for (int role = 0; role < 4; role++) {
            EDGES.fine(x, "1 NIGHT", x.breaths(role, 1), lines[role]);
            EDGES.fine(x, "7 NIGHTS", x.breaths(role, 7), 7 * lines[role]);
        }
        x.bar(4, true);
        x.kill(1, true);
        EDGES.fine(x, "BARRED, DEAD", x.breaths(1, 1), 12);
        StringBuilder b = new StringBuilder("role r; role s;");
        for (char c = 'a'; c < 'm'; c++) {
            b.append("scene ").append(c).append(" lines 20 with r;");
        }
        OneSeat y = Check.with(b.toString());
        EDGES.fine(y, "the most", y.breaths(0, 7), 1680);
        EDGES.fine(y, "in no SCENE", y.breaths(1, 7), 0);
    }
}
