/** Promises 37 to 40: DEATH that DOES the most, CASTING, BREATHS. */
public final class CastingTest {
    private static final Check CHECK = new Check();

    public static void main(String[] args) {
        promise37();
        promise37statuses();
        promise38();
        promise38order();
        promise38limits();
        promise39();
        promise40();
        CHECK.finish();
    }

    private static void death(OneSeat x, int ending, int role, long top, long bottom) {
        CHECK.due(x, "death " + ending, x.death(ending), role, 0);
        CHECK.due("death " + ending + " top", x.top(), top);
        CHECK.due("death " + ending + " bottom", x.bottom(), bottom);
    }

    private static void promise37() {
        OneSeat x = Check.with(Check.HOUSE);
        death(x, 1, 0, 7, 16);
        death(x, 2, 1, 5, 16);
        death(x, 3, 0, 15, 16);
        death(x, 9, 0, 1, 4);
        CHECK.due(x, "nobody is DEAD by that", x.many(6), 0, 0);
        x.kill(0, true);
        death(x, 3, 1, 15, 16);
        death(x, 2, 1, 1, 16);
        CHECK.due(x, "none changes it", x.death(1), -1, 8);
        CHECK.due("the FRACTION stays", x.bottom(), 16);
        x.kill(0, false);
        x.kill(1, true);
        CHECK.due(x, "nothing can be played as it is", x.death(1), -1, 8);
        // nobody there has to do with it, but nothing can be played without: it was sure
        OneSeat y = Check.with("role a; role b; scene s lines 1 with b; kind k lots 7 tears 0 laughs 0 sleeps 0;");
        death(y, 9, 1, 1, 1);
    }

    private static void promise37statuses() {
        OneSeat x = Check.with(Check.HOUSE);
        CHECK.due(x, "death(10)", x.death(10), -1, 5);
        CHECK.due(x, "death(-1)", x.death(-1), -1, 5);
        CHECK.due(x, "death(0)", x.death(0), -1, 8);
        OneSeat y = Check.with("role a; scene s lines 1 with a ends 1;");
        CHECK.due(y, "no KINDS", y.death(1), -1, 8);
        CHECK.due(y, "no KINDS, 10", y.death(10), -1, 5);
    }

    private static void cast(OneSeat x, int nights, int pay, int... by) {
        CHECK.due(x, "cast " + nights, x.cast(nights), pay, 0);
        for (int role = 0; role < by.length; role++) {
            CHECK.due(x, "cast " + nights + " role " + role, x.castAt(role), by[role], by[role] == -1 ? 8 : 0);
        }
    }

    private static void promise38() {
        OneSeat x = Check.with(Check.HOUSE);
        cast(x, 1, 21, 2, 1, 2, -1, -1, -1);
        cast(x, 2, 58, 2, 1, 0, -1, -1, -1);
        CHECK.due(x, "cast(3)", x.cast(3), -1, 9);
        CHECK.due(x, "castAt tells the latest with 0", x.castAt(2), 0, 0);
        CHECK.due(x, "cast(0)", x.cast(0), -1, 5);
        CHECK.due(x, "cast(8)", x.cast(8), -1, 5);
        x.kill(0, true);
        x.bar(3, true);
        cast(x, 1, 21, 2, 1, 2);
        OneSeat y = Check.with("role a; actor x pay 1 breath 9; scene s lines 1;");
        CHECK.due(y, "no ROLE in a SCENE", y.cast(1), -1, 8);
        CHECK.due(y, "no ROLE in a SCENE, 5", y.cast(8), -1, 5);
        OneSeat z = Check.with("role a; scene s lines 1 with a;");
        CHECK.due(z, "no ACTORS", z.cast(1), -1, 9);
        CHECK.due(z, "none by castAt", z.castAt(0), -1, 8);
    }

    private static void promise38order() {
        String actors = "actor p pay 5 breath 999; actor q pay 5 breath 999; actor r pay 5 breath 999;";
        OneSeat x = Check.with("role a; role b; role c;" + actors + "scene s lines 2 with a b; scene t lines 2 with b c;");
        cast(x, 1, 40, 0, 1, 0);
        OneSeat y = Check.with("role a; role b; role c; actor p pay 5 breath 999 not a; actor q pay 5 breath 999;"
            + "scene s lines 2 with a b; scene t lines 2 with b c;");
        cast(y, 7, 280, 1, 0, 1);
        // ROLE 0 by the least ACTOR comes ahead of ROLE 1 by one
        OneSeat z = Check.with("role a; role b; actor p pay 0 breath 3; actor q pay 0 breath 9; scene s lines 3 with a; scene t lines 3 with b;");
        cast(z, 1, 0, 0, 1);
        // ROLE 1 is in no SCENE
        OneSeat w = Check.with("role a; role b; role c; actor p pay 2 breath 9; scene s lines 3 with a; scene t lines 1 with c;");
        cast(w, 1, 8, 0, -1, 0, -1);
        // the least for each ROLE is not the least together
        OneSeat v = Check.with("role a; role b; actor p pay 1 breath 10; actor q pay 9 breath 99;"
            + "scene s lines 2 with a; scene t lines 9 with b;");
        cast(v, 1, 27, 1, 0);
    }

    private static void promise38limits() {
        String stage = "role a; role b; actor p pay 99 breath 14; scene s lines 1 with a; scene t lines 1 with b;";
        OneSeat x = Check.with(stage);
        cast(x, 7, 1386, 0, 0);
        OneSeat y = Check.with(stage.replace("14", "13"));
        CHECK.due(y, "one BREATH too few", y.cast(7), -1, 9);
        cast(y, 6, 1188, 0, 0);
        OneSeat z = Check.with(stage.replace("with b", "with a b"));
        CHECK.due(z, "two in one SCENE", z.cast(1), -1, 9);
    }

    private static void promise39() {
        OneSeat x = new OneSeat();
        CHECK.due(x, "castAt(6)", x.castAt(6), -1, 5);
        CHECK.due(x, "castAt(-1)", x.castAt(-1), -1, 5);
        CHECK.due(x, "castAt(5)", x.castAt(5), -1, 8);
        Check.stage(x, Check.HOUSE);
        x.cast(1);
        x.stage(0);
        CHECK.due(x, "stays behind a new STAGE", x.castAt(1), 1, 0);
    }

    private static void promise40() {
        OneSeat x = Check.with(Check.HOUSE);
        int[] lines = {5, 12, 4};
        for (int role = 0; role < 3; role++) {
            for (int nights = 1; nights <= 7; nights++) {
                CHECK.due(x, "breaths", x.breaths(role, nights), lines[role] * nights, 0);
            }
        }
        CHECK.due(x, "breaths(3, 9)", x.breaths(3, 9), -1, 2);
        CHECK.due(x, "breaths(-1, 1)", x.breaths(-1, 1), -1, 2);
        CHECK.due(x, "breaths(0, 0)", x.breaths(0, 0), -1, 5);
        CHECK.due(x, "breaths(0, 8)", x.breaths(0, 8), -1, 5);
        OneSeat y = Check.with("role a;");
        CHECK.due(y, "in no SCENE", y.breaths(0, 7), 0, 0);
    }
}
