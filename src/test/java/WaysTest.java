/** Promises 30 to 36: what can be. */
public final class WaysTest {
    private static final Check CHECK = new Check();

    public static void main(String[] args) {
        promises30and31();
        promises32and33();
        promise34();
        promises35and36();
        promise35least();
        nothing();
        large();
        CHECK.finish();
    }

    private static void promises30and31() {
        OneSeat x = Check.with(Check.HOUSE);
        CHECK.due(x, "ways", x.ways(), 4, 0);
        CHECK.due(x, "longest", x.length(0), 3, 0);
        CHECK.due(x, "shortest", x.length(1), 2, 0);
        CHECK.due(x, "length(2)", x.length(2), -1, 5);
        CHECK.due(x, "length(-1)", x.length(-1), -1, 5);
        x.bar(0, true);
        CHECK.due(x, "ways: low BARRED", x.ways(), 4, 0);
        CHECK.due(x, "shortest: low BARRED", x.length(1), 1, 0);
        x.kill(1, true);
        CHECK.due(x, "ways: b DEAD", x.ways(), -1, 9);
        CHECK.due(x, "length: b DEAD", x.length(0), -1, 9);
        CHECK.due(x, "length(2): b DEAD", x.length(2), -1, 5);
        OneSeat y = Check.with("scene a lines 1; scene b lines 1 then a tear a laugh a sleep a;");
        CHECK.due(y, "unlike rows alone", y.ways(), 1, 0);
        CHECK.due("longest at once", Check.with(Check.HOUSE).length(0), 3);
        CHECK.due("shortest at once", Check.with(Check.HOUSE).length(1), 2);
        OneSeat twice = Check.with("role a; scene e lines 1 with a; scene f lines 1 then e kills a; scene g lines 1 then f tear e kills a;");
        CHECK.due(twice, "KILLED twice is KILLED", twice.length(0), 2, 0);
        steer(twice, 9, 1);
    }

    private static void promises32and33() {
        OneSeat x = Check.with(Check.HOUSE);
        CHECK.due(x, "CAN", x.can(0), 15, 0);
        CHECK.due(x, "ENDINGS", x.can(1), 518, 0);
        CHECK.due(x, "can(2)", x.can(2), -1, 5);
        CHECK.due(x, "can(-1)", x.can(-1), -1, 5);
        CHECK.due("by at once", Check.with(Check.HOUSE).by(2), 516);
        CHECK.due("ENDINGS at once", Check.with(Check.HOUSE).can(1), 518);
        int[] by = {2, 4, 516, 518};
        for (int scene = 0; scene < 4; scene++) {
            CHECK.due(x, "by " + scene, x.by(scene), by[scene], 0);
        }
        CHECK.due(x, "by(4)", x.by(4), -1, 2);
        CHECK.due(x, "by(-1)", x.by(-1), -1, 2);
        x.bar(0, true);
        CHECK.due(x, "CAN: low BARRED", x.can(0), 14, 0);
        CHECK.due(x, "ENDINGS: low BARRED", x.can(1), 524, 0);
        CHECK.due(x, "by low BARRED", x.by(0), 0, 0);
        x.kill(2, true);
        CHECK.due(x, "CAN: nothing", x.can(0), 0, 0);
        CHECK.due(x, "ENDINGS: nothing", x.can(1), 0, 0);
        CHECK.due(x, "by: nothing", x.by(3), 0, 0);
    }

    private static void promise34() {
        OneSeat x = Check.with(Check.HOUSE);
        CHECK.due(x, "low and turn are apart", x.fewest(), 2, 0);
        x.bar(0, true);
        CHECK.due(x, "one for first, turn, side", x.fewest(), 1, 0);
        x.bar(3, true);
        CHECK.due(x, "nothing", x.fewest(), -1, 9);
        OneSeat y = Check.with("scene a lines 1; scene b lines 1; scene c lines 1; scene d lines 1;"
            + "scene e lines 1 then a tear b laugh c sleep d;");
        CHECK.due(y, "a star", y.fewest(), 4, 0);
        y.bar(2, true);
        CHECK.due(y, "a star, one BARRED", y.fewest(), 3, 0);
        OneSeat z = Check.with("scene a lines 1;");
        CHECK.due(z, "the FIRST alone", z.fewest(), 1, 0);
        OneSeat g = Check.with("scene a lines 1;scene b lines 1;scene c lines 1 then a;scene d lines 1 then b;"
            + "scene e lines 1 then c;scene f lines 1 then d;scene g lines 1 then e tear f;");
        CHECK.due(g, "two halves", g.fewest(), 2, 0);
    }

    private static void promises35and36() {
        OneSeat x = Check.with(Check.HOUSE);
        CHECK.due(x, "ahead of any", x.steerAt(0), -1, 8);
        steer(x, 1, 2, 0);
        steer(x, 2, 1, 0);
        steer(x, 9, 0, 1);
        CHECK.due(x, "steer(3)", x.steer(3), -1, 8);
        CHECK.due(x, "steer(10)", x.steer(10), -1, 5);
        CHECK.due(x, "steer(-1)", x.steer(-1), -1, 5);
        CHECK.due(x, "the latest with 0 stays", x.steerAt(1), 1, 0);
        x.bar(0, true);
        steer(x, 3, 2);
        CHECK.due(x, "its second is none", x.steerAt(1), -1, 8);
        x.kill(2, true);
        CHECK.due(x, "nothing can be played", x.steer(3), -1, 8);
        x.stage(0);
        CHECK.due(x, "stays behind a new STAGE", x.steerAt(0), 2, 0);
    }

    private static void steer(OneSeat x, int ending, int... deeds) {
        CHECK.due(x, "steer " + ending, x.steer(ending), deeds.length, 0);
        for (int k = 0; k < deeds.length; k++) {
            CHECK.due(x, "steer " + ending + " at " + k, x.steerAt(k), deeds[k], 0);
        }
        CHECK.due(x, "no more", x.steerAt(deeds.length), -1, 8);
        CHECK.due(x, "none below", x.steerAt(-1), -1, 8);
    }

    private static void promise35least() {
        // two rows of three SCENES: 1 then 0 is ahead of 2 then 0, though it goes by a SCENE told later; 0 is longer
        OneSeat x = Check.with("scene a lines 1 ends 4; scene b lines 1 tear a; scene c lines 1 laugh a; scene d lines 1 then c;"
            + "scene e lines 1 then d tear c laugh b;");
        steer(x, 4, 1, 2, 0);
        // the last deed counts too: only by a LAUGH the CURTAIN falls there
        OneSeat y = Check.with("role r; scene a lines 1 with r; scene b lines 1; scene c lines 1 ends 5 then b laugh a kills r;");
        steer(y, 5, 2);
        steer(y, 9, 0, 0);
        // the same SCENE by several deeds: the least one
        OneSeat z = Check.with("scene a lines 1 ends 6; scene b lines 1; scene c lines 1 then b tear a laugh a sleep a;");
        steer(z, 6, 1, 0);
    }

    private static void nothing() {
        OneSeat x = new OneSeat();
        CHECK.due(x, "ways", x.ways(), -1, 9);
        CHECK.due(x, "length(1)", x.length(1), -1, 9);
        CHECK.due(x, "fewest", x.fewest(), -1, 9);
        CHECK.due(x, "by(0)", x.by(0), -1, 2);
        CHECK.due(x, "can(0)", x.can(0), 0, 0);
        CHECK.due(x, "can(1)", x.can(1), 0, 0);
        CHECK.due(x, "steer(9)", x.steer(9), -1, 8);
    }

    /** Each SCENE leads to the four told just ahead of it: as many rows as there can be. */
    private static void large() {
        StringBuilder b = new StringBuilder();
        String[] words = {" sleep ", " laugh ", " tear ", " then "};
        long[] rows = new long[12];
        for (int k = 0; k < 12; k++) {
            StringBuilder ways = new StringBuilder();
            for (int d = 0; d < 4; d++) {
                int to = k - 4 + d;
                if (to >= 0) {
                    ways.insert(0, words[d] + (char) ('a' + to));
                }
            }
            b.append("scene ").append((char) ('a' + k)).append(" lines 1").append(ways).append(";");
        }
        // where THEN is told, what is not told goes on by it: no CURTAIN but behind SCENE 0
        rows[0] = 1;
        rows[1] = 1;
        rows[2] = 2;
        rows[3] = 4;
        for (int k = 4; k < 12; k++) {
            rows[k] = rows[k - 1] + rows[k - 2] + rows[k - 3] + rows[k - 4];
        }
        OneSeat x = Check.with(b.toString());
        CHECK.due(x, "rows", x.ways(), rows[11], 0);
        CHECK.due(x, "longest", x.length(0), 12, 0);
        CHECK.due(x, "shortest", x.length(1), 4, 0);
        CHECK.due(x, "fewest", x.fewest(), 1, 0);
        CHECK.due(x, "CAN", x.can(0), 4095, 0);
        CHECK.due(x, "steer", x.steer(9), 4, 0);
    }
}
