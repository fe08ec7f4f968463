/** Promises 26 to 29: odds, exact. */
public final class OddsTest {
    private static final Check CHECK = new Check();

    public static void main(String[] args) {
        promise26();
        promise27();
        promise28();
        promise29();
        statuses();
        asTheStageIsNow();
        largest();
        CHECK.finish();
    }

    private static void promise26() {
        OneSeat x = Check.with(Check.HOUSE);
        CHECK.told(x, "one: 1", x.odds(1, 0), 1, 4);
        CHECK.told(x, "one: 2", x.odds(2, 0), 1, 2);
        CHECK.told(x, "one: none", x.odds(9, 0), 1, 4);
        CHECK.told(x, "one: 3", x.odds(3, 0), 0, 1);
        CHECK.told(x, "two: 1", x.odds(1, 1), 1, 2);
        CHECK.told(x, "two: 2", x.odds(2, 1), 1, 4);
        CHECK.told(x, "LOT: 1", x.odds(1, -1), 7, 16);
        CHECK.told(x, "LOT: 2", x.odds(2, -1), 5, 16);
        CHECK.told(x, "LOT: none", x.odds(9, -1), 1, 4);
        CHECK.told(x, "LOT: 0", x.odds(0, -1), 0, 1);
    }

    private static void promise27() {
        OneSeat x = Check.with(Check.HOUSE);
        CHECK.told(x, "one: low", x.seen(0, 0), 1, 4);
        CHECK.told(x, "one: side", x.seen(1, 0), 1, 2);
        CHECK.told(x, "one: turn", x.seen(2, 0), 1, 2);
        CHECK.told(x, "one: first", x.seen(3, 0), 1, 1);
        CHECK.told(x, "two: side", x.seen(1, 1), 1, 4);
        CHECK.told(x, "LOT: low", x.seen(0, -1), 7, 16);
        CHECK.told(x, "LOT: side", x.seen(1, -1), 5, 16);
        CHECK.told(x, "LOT: first", x.seen(3, -1), 1, 1);
        x.bar(0, true);
        CHECK.told(x, "BARRED", x.seen(0, -1), 0, 1);
    }

    private static void promise28() {
        OneSeat x = Check.with(Check.HOUSE);
        CHECK.told(x, "one, by 1", x.who(0, 1), 1, 7);
        CHECK.told(x, "two, by 1", x.who(1, 1), 6, 7);
        CHECK.told(x, "one, by 2", x.who(0, 2), 2, 5);
        CHECK.told(x, "two, by 2", x.who(1, 2), 3, 5);
        CHECK.told(x, "one, by none", x.who(0, 9), 1, 4);
        CHECK.due(x, "by 3", x.who(0, 3), false, 8);
        CHECK.due("the FRACTION stays", x.bottom(), 4);
        x.bar(2, true);
        CHECK.told(x, "two, by 2: turn BARRED", x.who(1, 2), 0, 1);
    }

    private static void promise29() {
        OneSeat x = Check.with(Check.HOUSE);
        CHECK.told(x, "one", x.mean(0), 14, 1);
        CHECK.told(x, "two", x.mean(1), 53, 4);
        CHECK.told(x, "LOT", x.mean(-1), 215, 16);
        OneSeat y = Check.with("role a; scene s lines 9; kind k lots 1 tears 0 laughs 0 sleeps 0;");
        CHECK.told(y, "no BREATHS", y.mean(0), 0, 1);
    }

    private static void statuses() {
        OneSeat x = Check.with(Check.HOUSE);
        for (int far : new int[] {2, -2, Integer.MAX_VALUE, Integer.MIN_VALUE}) {
            CHECK.due(x, "odds kind " + far, x.odds(99, far), false, 2);
            CHECK.due(x, "seen kind " + far, x.seen(0, far), false, 2);
            CHECK.due(x, "who kind " + far, x.who(far, 99), false, 2);
            CHECK.due(x, "mean kind " + far, x.mean(far), false, 2);
        }
        CHECK.due(x, "seen scene 4", x.seen(4, 0), false, 2);
        CHECK.due(x, "seen scene -1", x.seen(-1, 0), false, 2);
        CHECK.due(x, "who NONE", x.who(-1, 1), false, 2);
        for (int far : new int[] {10, -1, Integer.MAX_VALUE}) {
            CHECK.due(x, "odds ending " + far, x.odds(far, 0), false, 5);
            CHECK.due(x, "who ending " + far, x.who(0, far), false, 5);
        }
        x.bar(3, true);
        CHECK.due(x, "odds, 5 ahead of 9", x.odds(10, 0), false, 5);
        CHECK.due(x, "odds, BARRED", x.odds(1, 0), false, 9);
        CHECK.due(x, "odds by LOT, BARRED", x.odds(1, -1), false, 9);
        CHECK.due(x, "seen, BARRED", x.seen(3, -1), false, 9);
        CHECK.due(x, "mean, BARRED", x.mean(0), false, 9);
        CHECK.due(x, "who, BARRED", x.who(0, 1), false, 8);
        OneSeat y = Check.with("scene s lines 1;");
        y.bar(0, true);
        CHECK.due(y, "odds, no KINDS", y.odds(1, -1), false, 8);
        CHECK.due(y, "odds, no KINDS, 5", y.odds(-1, -1), false, 5);
        CHECK.due(y, "odds, no such KIND", y.odds(1, 0), false, 2);
        CHECK.due(y, "seen, no KINDS", y.seen(0, -1), false, 8);
        CHECK.due(y, "mean, no KINDS", y.mean(-1), false, 8);
    }

    private static void asTheStageIsNow() {
        OneSeat x = Check.with(Check.HOUSE);
        x.kill(0, true);
        CHECK.told(x, "a DEAD: 3", x.odds(3, -1), 15, 16);
        CHECK.told(x, "a DEAD: 2", x.odds(2, 0), 1, 4);
        CHECK.told(x, "a DEAD: mean", x.mean(0), 37, 4);
        x.kill(0, false);
        CHECK.told(x, "a DEAD no more", x.odds(3, -1), 0, 1);
        x.bar(1, true);
        CHECK.told(x, "side BARRED: none", x.odds(9, -1), 1, 2);
        CHECK.told(x, "side BARRED: 3", x.odds(3, -1), 1, 16);
    }

    /** Twelve SCENES in a chain, all LOTS, the most BREATHS: nothing may wrap around. */
    private static void largest() {
        StringBuilder b = new StringBuilder("role a;role b;role c;role d;role e;role f;");
        String before = "";
        for (char c = 'm'; c < 'y'; c++) {
            b.append("scene ").append(c).append(" lines 20 with a b c d e f").append(before).append(";");
            before = " tear " + c;
        }
        for (int k = 0; k < 4; k++) {
            b.append("kind k").append((char) ('a' + k)).append(" lots ").append(30 - k).append(" tears ").append(15 - 2 * k)
                .append(" laughs 0 sleeps 0;");
        }
        OneSeat x = Check.with(b.toString());
        long whole = 1L << 44;
        CHECK.told(x, "all by 15", x.seen(0, 0), 8649755859375L, whole);
        CHECK.told(x, "none behind the last", x.odds(9, -1), 1, 1);
        // 120 by the sum of 15/16 to the k-th, k = 0 .. 11: 120 * (16^12 - 15^12) / 16^11
        CHECK.told(x, "mean of 15", x.mean(0), 15L * ((1L << 48) - 129746337890625L), 1L << 41);
        CHECK.due("LOT", x.mean(-1), true);
        OneSeat y = Check.with(b.toString().replaceAll("tears [0-9]+", "tears 16").replaceAll("lots [0-9]+", "lots 30"));
        CHECK.told(y, "the most", y.mean(-1), 1440, 1);
    }
}
