/** Boundary cases of promises 9 to 11 and 13 to 18: the tape, how much a STAGE and a WEEK may be, what they tell. */
public final class EdgesTextsTest {
    private static final Edges EDGES = new Edges();
    private static final int BLANKS = 0x20202020;
    private static final String SIX_ROLES = "role a;role b;role c;role d;role e;role f;";
    private static final String TEN_STOPS = "stop;stop;stop;stop;stop;stop;stop;stop;stop;stop;";
    private static final String SMALL = "role r; scene s lines 1 with r; kind k lots 1 tears 0 laughs 0 sleeps 0;";

    public static void main(String[] args) {
        feedFull();
        feedBytes();
        stageLength();
        stageOfNineHundred();
        stageFull();
        stageEmpty();
        stageFirst();
        stageAnew();
        weekLength();
        weekFull();
        weekAnew();
        many();
        manyFull();
        scene();
        sceneLimits();
        kind();
        actor();
        bar();
        kill();
        EDGES.finish(9, 18, 12);
    }

    private static void blanks(OneSeat x, int times) {
        for (int k = 0; k < times; k++) {
            x.feed(BLANKS, BLANKS, BLANKS, BLANKS, BLANKS);
        }
    }

    private static void feedFull() {
        EDGES.says(9, "Twenty bytes come behind those on the tape");
        OneSeat x = new OneSeat();
        for (int k = 1; k <= 45; k++) {
            EDGES.due("how many it has", x.feed(BLANKS, BLANKS, BLANKS, BLANKS, BLANKS), 20 * k);
        }
        EDGES.says(9, "NONE if there would be more than 900.");
        for (int k = 0; k < 3; k++) {
            EDGES.due("more than 900", x.feed(-1, -1, -1, -1, -1), -1);
        }
        EDGES.fine(x, "they did not come", x.stage(900), 0);
        EDGES.due("there is room again", x.feed(0, 0, 0, 0, 0), 20);
    }

    private static void feedBytes() {
        EDGES.says(9, "the highest of each int first");
        for (int at = 0; at < 20; at++) {
            int shift = 24 - at % 4 * 8;
            int[] five = {BLANKS, BLANKS, BLANKS, BLANKS, BLANKS};
            five[at / 4] = BLANKS & ~(255 << shift) | '#' << shift;
            OneSeat x = new OneSeat();
            x.feed(five[0], five[1], five[2], five[3], five[4]);
            EDGES.no(x, 10, "a FAULT in byte " + at, x.stage(20));
            EDGES.due("its place " + at, x.fault(1), at);
        }
    }

    private static void stageLength() {
        EDGES.says(10, "The first n bytes of the tape (which is empty then, but for 5) are the STAGE: how many SCENES (5; 10: the old one stays).");
        EDGES.refused(5, "stage(-1)", x -> x.stage(-1));
        EDGES.refused(5, "one byte too many", x -> x.stage(41));
        EDGES.refused(5, "stage(901)", x -> blanks(x, 43), x -> x.stage(901));
        for (int far : Edges.FAR_OFF) {
            EDGES.refused(5, "stage(" + far + ")", x -> x.stage(far));
        }
        OneSeat x = new OneSeat();
        Check.feed(x, "scene a lines 1;    scene b lines 1;    ");
        EDGES.fine(x, "the first 20", x.stage(20), 1);
        EDGES.no(x, 5, "it is empty then", x.stage(1));
        EDGES.due("empty", x.feed(0, 0, 0, 0, 0), 20);
        EDGES.no(x, 10, "a FAULT", x.stage(1));
        EDGES.no(x, 5, "it is empty behind 10, too", x.stage(1));
        OneSeat y = Edges.full();
        EDGES.fine(y, "all that is there", y.stage(40), 2);
    }

    private static void stageOfNineHundred() {
        EDGES.says(10, "A STAGE is a TEXT of at most 900 bytes.");
        StringBuilder b = new StringBuilder("role a;");
        while (b.length() < 884) {
            b.append(b.length() % 2 == 0 ? ' ' : '\n');
        }
        OneSeat x = new OneSeat();
        EDGES.fine(x, "900 bytes, the last of them of the STAGE", Check.stage(x, b + "scene b lines 1;"), 1);
        OneSeat y = new OneSeat();
        EDGES.no(y, 10, "900 bytes without an end", Check.stage(y, b + " scene b lines 1"));
        EDGES.due("its place is the length", y.fault(1), 900);
        OneSeat z = new OneSeat();
        Check.feed(z, b + "scene b lines 1;");
        EDGES.no(z, 10, "899 of them", z.stage(899));
        EDGES.due("its place is that length", z.fault(1), 899);
    }

    /** So many PARTS: their NAMES are from g on. */
    private static String parts(String word, int times, String rest) {
        StringBuilder b = new StringBuilder();
        for (int k = 0; k < times; k++) {
            b.append(word).append(' ').append((char) ('g' + k)).append(rest);
        }
        return b.toString();
    }

    private static void stageFull() {
        EDGES.says(10, "ROLES, at most 6. ACTORS, at most 6");
        OneSeat x = new OneSeat();
        EDGES.fine(x, "six ROLES", Check.stage(x, SIX_ROLES), 0);
        EDGES.fine(x, "they are there", x.many(0), 6);
        EDGES.faultyStage(6, SIX_ROLES + "#role g;");
        EDGES.fine(x, "six ACTORS", Check.stage(x, parts("actor", 6, " pay 99 breath 999;")), 0);
        EDGES.fine(x, "they are there", x.many(1), 6);
        EDGES.fine(x, "no ROLES any more", x.many(0), 0);
        EDGES.faultyStage(6, parts("actor", 6, " pay 1 breath 1;") + "#actor z pay 1 breath 1;");
        EDGES.says(10, "SCENES, at most 12");
        EDGES.fine(x, "twelve SCENES", Check.stage(x, parts("scene", 12, " lines 20;")), 12);
        EDGES.fine(x, "they are there", x.many(2), 12);
        EDGES.faultyStage(6, parts("scene", 12, " lines 1;") + "#scene z lines 1;");
        EDGES.says(10, "KINDS of spectators, at most 4");
        EDGES.fine(x, "four KINDS", Check.stage(x, parts("kind", 4, " lots 30 tears 8 laughs 8 sleeps 0;")), 0);
        EDGES.fine(x, "they are there", x.many(3), 4);
        EDGES.faultyStage(6, parts("kind", 4, " lots 1 tears 0 laughs 0 sleeps 0;") + "#kind z lots 1 tears 0 laughs 0 sleeps 0;");
    }

    private static void stageEmpty() {
        EDGES.says(10, "STAGE: {PART}.");
        OneSeat x = Edges.full();
        EDGES.fine(x, "no bytes", x.stage(0), 0);
        EDGES.fine(x, "no ROLES", x.many(0), 0);
        EDGES.fine(x, "no KINDS", x.many(3), 0);
        EDGES.due("no FAULT", x.fault(0), 0);
        EDGES.due("no place", x.fault(1), -1);
        EDGES.fine(x, "blanks alone", Check.stage(x, " \n  \n"), 0);
    }

    private static void stageFirst() {
        EDGES.says(10, "All are numbered as they stand; the FIRST scene played is the last one told.");
        OneSeat x = new OneSeat();
        Check.stage(x, "scene s lines 1 ends 1; role a; scene t lines 2 ends 2; actor b pay 1 breath 1; role c; scene u lines 3 ends 3; role d;");
        EDGES.fine(x, "LINES of SCENE 0", x.scene(0, 0), 1);
        EDGES.fine(x, "LINES of SCENE 2", x.scene(2, 0), 3);
        EDGES.fine(x, "only the FIRST is played", Check.night(x, ""), 4);
        EDGES.fine(x, "three ROLES between them", x.many(0), 3);
    }

    private static void stageAnew() {
        EDGES.says(10, "A STAGE that is taken is there in place of that ahead; no SCENE is BARRED, no ROLE is DEAD, no NIGHT was played, there is no WEEK.");
        OneSeat x = Edges.full();
        Check.feed(x, SMALL);
        EDGES.fine(x, "the first SCENES of the tape", x.stage(16), 1);
        int[] due = {0, 0, 1, 0, 0, 0, 0, 3};
        for (int what = 0; what <= 7; what++) {
            EDGES.fine(x, "many " + what, x.many(what), due[what]);
        }
        EDGES.no(x, 8, "no NIGHT", x.book(0, 0));
        EDGES.fine(x, "UNSEEN", x.unseen(), 1);
        EDGES.no(x, 8, "no WEEK", x.run(0));
        EDGES.fine(x, "the MARKS stay", x.back(), 1);
        EDGES.says(10, "10: the old one stays");
        EDGES.faultyStage(2, "scene s lines 1 #");
        EDGES.faultyStage(1, SMALL + "#$");
    }

    private static void weekLength() {
        EDGES.says(11, "Likewise the WEEK: how many STEPS (5: above 300, too; 10).");
        EDGES.refused(5, "week(-1)", x -> x.week(-1));
        EDGES.refused(5, "one byte too many", x -> x.week(41));
        EDGES.refused(5, "301 of 320", x -> blanks(x, 14), x -> x.week(301));
        EDGES.refused(5, "900 of 900", x -> blanks(x, 43), x -> x.week(900));
        for (int far : Edges.FAR_OFF) {
            EDGES.refused(5, "week(" + far + ")", x -> x.week(far));
        }
        EDGES.says(11, "A WEEK is a TEXT of at most 300 bytes, of such TOKENS (none at first).");
        OneSeat x = Check.with(SMALL);
        EDGES.no(x, 8, "none at first", x.run(0));
        StringBuilder b = new StringBuilder("stop;");
        while (b.length() < 295) {
            b.append(b.length() % 3 == 0 ? '\n' : ' ');
        }
        EDGES.fine(x, "300 bytes, the last of them of the WEEK", Check.week(x, b + "stop;"), 2);
        EDGES.no(x, 5, "the tape is empty", x.week(1));
        EDGES.no(x, 10, "300 bytes without an end", Check.week(x, b + " stop"));
        EDGES.due("its place is the length", x.fault(1), 300);
        EDGES.no(x, 5, "the tape is empty behind 10, too", x.week(1));
        Check.feed(x, "stop; stop; stop;   ");
        EDGES.fine(x, "the first 11", x.week(11), 2);
        EDGES.no(x, 5, "the rest is gone", x.week(1));
        EDGES.says(11, "WEEK: {STEP}.");
        EDGES.fine(x, "no STEP", x.week(0), 0);
        EDGES.fine(x, "it is a WEEK", x.run(0), 0);
        EDGES.fine(x, "without STEPS", x.ran(0), 0);
        EDGES.fine(x, "blanks alone", Check.week(x, " \n "), 0);
    }

    private static void weekFull() {
        EDGES.says(11, "6 a 31st STEP (at its WORD; end is none).");
        OneSeat x = Check.with(SMALL);
        EDGES.fine(x, "30 STEPS", Check.week(x, TEN_STOPS + TEN_STOPS + TEN_STOPS), 30);
        EDGES.fine(x, "27 STEPS, each with an end", Check.week(x, "loop 1;end;".repeat(27)), 27);
        EDGES.fine(x, "an end behind the 30th", Check.week(x, TEN_STOPS + TEN_STOPS + "loop 1;stop;stop;stop;stop;stop;stop;stop;stop;stop;end;"), 30);
        EDGES.faultyWeek(6, TEN_STOPS + TEN_STOPS + TEN_STOPS + "#stop;");
        EDGES.faultyWeek(6, TEN_STOPS + TEN_STOPS + "loop 1;stop;stop;stop;stop;stop;stop;stop;stop;stop;end;#play");
        EDGES.says(11, "7 a when, loop within three others (at its WORD).");
        EDGES.fine(x, "three within one another", Check.week(x, "loop 1;when dead r;loop 1;stop;end;when dead r;end;end;end;loop 1;end;"), 6);
        EDGES.faultyWeek(7, "loop 1;when dead a;loop 1;#loop 1;end;end;end;end;");
        EDGES.faultyWeek(7, "loop 1;when dead a;when dead b;#when dead c;end;end;end;end;");
    }

    private static void weekAnew() {
        EDGES.says(11, "Likewise the WEEK");
        OneSeat x = Edges.full();
        EDGES.fine(x, "another", Check.week(x, ""), 0);
        EDGES.fine(x, "in place of the old one", x.run(0), 0);
        EDGES.fine(x, "BARRED stays", x.many(5), 1);
        EDGES.fine(x, "DEAD stays", x.many(6), 8);
        EDGES.fine(x, "the BOOK stays", x.many(4), 5);
        EDGES.faultyWeek(2, "play #");
        EDGES.faultyWeek(1, "play;#$");
    }

    private static void many() {
        EDGES.says(13, "all LINES (7) (5).");
        EDGES.refused(5, "many(-1)", x -> x.many(-1));
        EDGES.refused(5, "many(8)", x -> x.many(8));
        for (int far : Edges.FAR_OFF) {
            EDGES.refused(5, "many(" + far + ")", x -> x.many(far));
        }
        OneSeat x = Edges.full();
        int[] due = {4, 3, 5, 2, 5, 1, 8, 15};
        for (int what = 0; what <= 7; what++) {
            EDGES.fine(x, "many " + what, x.many(what), due[what]);
        }
    }

    private static void manyFull() {
        EDGES.says(13, "How many ROLES (what 0), ACTORS (1), SCENES (2), KINDS (3); NIGHTS in the BOOK (4); the sets of SCENES that are BARRED (5), of ROLES that are DEAD (6)");
        OneSeat x = Check.with(SIX_ROLES + parts("scene", 12, " lines 20;"));
        EDGES.fine(x, "all LINES, the most", x.many(7), 240);
        for (int k = 0; k < 25; k++) {
            EDGES.fine(x, "NIGHTS, at most 20", x.many(4), Math.min(k, 20));
            Check.night(x, "");
        }
        for (int k = 0; k < 12; k++) {
            x.bar(k, true);
            EDGES.fine(x, "BARRED up to " + k, x.many(5), (2 << k) - 1);
        }
        for (int k = 0; k < 6; k++) {
            x.kill(k, true);
            EDGES.fine(x, "DEAD up to " + k, x.many(6), (2 << k) - 1);
        }
    }

    private static void scene() {
        EDGES.says(14, "8: BREATHS (2; 5).");
        EDGES.refused(2, "scene -1", x -> x.scene(-1, 0));
        EDGES.refused(2, "just behind the last scene", x -> x.scene(5, 0));
        EDGES.refused(2, "2 ahead of 5", x -> x.scene(5, 9));
        EDGES.refused(2, "2 ahead of 8", x -> x.scene(-1, 7));
        EDGES.refused(5, "what -1", x -> x.scene(0, -1));
        EDGES.refused(5, "what 9", x -> x.scene(4, 9));
        for (int far : Edges.FAR_OFF) {
            EDGES.refused(2, "scene " + far, x -> x.scene(far, 0));
            EDGES.refused(5, "what " + far, x -> x.scene(0, far));
        }
        EDGES.says(14, "2: its ENDING (8: none), 3: THEN, 4: TEAR, 5: LAUGH, 6: SLEEP (8: none told), 7: whom it KILLS (8)");
        EDGES.refused(8, "no ENDING", x -> x.scene(3, 2));
        EDGES.refused(8, "no THEN", x -> x.scene(0, 3));
        EDGES.refused(8, "no TEAR", x -> x.scene(1, 4));
        EDGES.refused(8, "no LAUGH", x -> x.scene(2, 5));
        EDGES.refused(8, "no SLEEP, though there is THEN", x -> x.scene(3, 6));
        EDGES.refused(8, "KILLS nobody", x -> x.scene(4, 7));
    }

    private static void sceneLimits() {
        EDGES.says(14, "LINES (1 to 20), a breath each for each ROLE in it; which ROLES are in it; with an ENDING (0 to 8), or none");
        OneSeat x = Check.with(SIX_ROLES + "scene g lines 1; scene h lines 20 with f e d c b a ends 0 kills a;"
            + "scene i lines 20 with f ends 8 then g tear h laugh h sleep g kills f; scene j lines 1 with a b tear i;");
        int[][] due = {{1, 0, -1, -1, -1, -1, -1, -1, 0}, {20, 63, 0, -1, -1, -1, -1, 0, 120}, {20, 32, 8, 0, 1, 1, 0, 5, 20},
            {1, 3, -1, -1, 2, -1, -1, -1, 2}};
        for (int scene = 0; scene < 4; scene++) {
            for (int what = 0; what <= 8; what++) {
                int want = due[scene][what];
                EDGES.due("scene " + scene + " " + what, x.scene(scene, what), want);
                EDGES.due("scene " + scene + " " + what + " STATUS", x.status(), want < 0 ? 8 : 0);
            }
        }
    }

    private static void kind() {
        EDGES.says(15, "Of a KIND, what 0: LOTS, 1: TEARS, 2: LAUGHS, 3: SLEEPS (2; 5).");
        EDGES.refused(2, "kind -1", x -> x.kind(-1, 0));
        EDGES.refused(2, "just behind the last kind", x -> x.kind(2, 0));
        EDGES.refused(2, "2 ahead of 5", x -> x.kind(2, 4));
        EDGES.refused(5, "what -1", x -> x.kind(0, -1));
        EDGES.refused(5, "what 4", x -> x.kind(1, 4));
        for (int far : Edges.FAR_OFF) {
            EDGES.refused(2, "kind " + far, x -> x.kind(far, 0));
            EDGES.refused(5, "what " + far, x -> x.kind(0, far));
        }
        EDGES.says(15, "LOTS (1 to 30) and with how many sixteenths they shed TEARS, LAUGH, SLEEP in a SCENE (0 to 16 each, together at most 16)");
        OneSeat x = Check.with("kind a lots 1 tears 16 laughs 0 sleeps 0; kind b lots 30 tears 0 laughs 16 sleeps 0;"
            + "kind c lots 2 tears 0 laughs 0 sleeps 16; kind d lots 29 tears 5 laughs 5 sleeps 6;");
        int[][] due = {{1, 16, 0, 0}, {30, 0, 16, 0}, {2, 0, 0, 16}, {29, 5, 5, 6}};
        for (int kind = 0; kind < 4; kind++) {
            for (int what = 0; what < 4; what++) {
                EDGES.fine(x, "kind " + kind + " " + what, x.kind(kind, what), due[kind][what]);
            }
        }
    }

    private static void actor() {
        EDGES.says(16, "Of an ACTOR, what 0: what a breath COSTS, 1: BREATHS, 2: the set of ROLES that it can not play (2; 5).");
        EDGES.refused(2, "actor -1", x -> x.actor(-1, 0));
        EDGES.refused(2, "just behind the last actor", x -> x.actor(3, 0));
        EDGES.refused(2, "2 ahead of 5", x -> x.actor(3, 3));
        EDGES.refused(5, "what -1", x -> x.actor(0, -1));
        EDGES.refused(5, "what 3", x -> x.actor(2, 3));
        for (int far : Edges.FAR_OFF) {
            EDGES.refused(2, "actor " + far, x -> x.actor(far, 0));
            EDGES.refused(5, "what " + far, x -> x.actor(0, far));
        }
        EDGES.says(16, "what a breath COSTS (0 to 99), how many BREATHS they have a week (0 to 999), ROLES that they can not play");
        OneSeat x = Check.with(SIX_ROLES + parts("actor", 4, " pay 5 breath 7;") + "actor y pay 0 breath 0 not a b c d e f; actor z pay 99 breath 999 not f;");
        int[][] due = {{5, 7, 0}, {0, 0, 63}, {99, 999, 32}};
        for (int k = 0; k < 3; k++) {
            for (int what = 0; what < 3; what++) {
                EDGES.fine(x, "actor " + (k + 3) + " " + what, x.actor(k + 3, what), due[k][what]);
            }
        }
    }

    private static void bar() {
        EDGES.says(17, "A SCENE is BARRED, or no more (2).");
        for (boolean is : new boolean[] {true, false}) {
            EDGES.denied(2, "scene -1", x -> x.bar(-1, is));
            EDGES.denied(2, "just behind the last scene", x -> x.bar(5, is));
            for (int far : Edges.FAR_OFF) {
                EDGES.denied(2, "scene " + far, x -> x.bar(far, is));
            }
            EDGES.denied(2, "scene 32", x -> x.bar(32, is));
        }
        OneSeat x = Edges.full();
        EDGES.fine(x, "the last scene", x.bar(4, true));
        EDGES.fine(x, "again", x.bar(4, true));
        EDGES.fine(x, "two are BARRED", x.many(5), 17);
        EDGES.fine(x, "one that was not, no more", x.bar(2, false));
        EDGES.fine(x, "the same two", x.many(5), 17);
        EDGES.fine(x, "the first no more", x.bar(0, false));
        EDGES.fine(x, "the last alone", x.many(5), 16);
    }

    private static void kill() {
        EDGES.says(18, "A ROLE is DEAD, or no more (2).");
        for (boolean is : new boolean[] {true, false}) {
            EDGES.denied(2, "role -1", x -> x.kill(-1, is));
            EDGES.denied(2, "just behind the last role", x -> x.kill(4, is));
            for (int far : Edges.FAR_OFF) {
                EDGES.denied(2, "role " + far, x -> x.kill(far, is));
            }
            EDGES.denied(2, "role 35", x -> x.kill(35, is));
        }
        OneSeat x = Edges.full();
        EDGES.fine(x, "the first role", x.kill(0, true));
        EDGES.fine(x, "again", x.kill(0, true));
        EDGES.fine(x, "two are DEAD", x.many(6), 9);
        EDGES.fine(x, "one that was not, no more", x.kill(2, false));
        EDGES.fine(x, "the same two", x.many(6), 9);
        EDGES.fine(x, "the last no more", x.kill(3, false));
        EDGES.fine(x, "the first alone", x.many(6), 1);
    }
}
