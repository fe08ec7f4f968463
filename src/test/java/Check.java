/** What all tests of the project share: answers that are due, and texts that are fed. */
final class Check {
    /**
     * Its NIGHTS: first turn side (14), first turn (12), first side (10), first low (9). Turn KILLS a, so that nothing that
     * low tells can come behind it.
     */
    static final String HOUSE = "role a; role b; role c;"
        + " actor x pay 3 breath 100; actor y pay 1 breath 30 not a; actor z pay 1 breath 12;"
        + " scene low lines 2 with a ends 1; scene side lines 5 with b ends 2;"
        + " scene turn lines 3 with a b then side tear low laugh low kills a;"
        + " scene first lines 4 with b c ends 3 then turn tear side laugh low;"
        + " kind one lots 1 tears 4 laughs 4 sleeps 0; kind two lots 3 tears 0 laughs 8 sleeps 8;";

    private int wrong = 0;
    private int asked = 0;

    void due(String what, long got, long want) {
        asked++;
        if (got != want) {
            wrong++;
            if (wrong <= 40) {
                System.out.println(what + " answered " + got + ", due is " + want);
            }
        }
    }

    void due(String what, boolean got, boolean want) {
        due(what, got ? 1 : 0, want ? 1 : 0);
    }

    /** A call that is done, with the STATUS that it has. */
    void due(OneSeat x, String what, long got, long want, int status) {
        due(what, got, want);
        due(what + " status", x.status(), status);
    }

    void due(OneSeat x, String what, boolean got, boolean want, int status) {
        due(x, what, got ? 1 : 0, want ? 1 : 0, status);
    }

    /** A call that tells a FRACTION. */
    void told(OneSeat x, String what, boolean got, long top, long bottom) {
        due(x, what, got, true, 0);
        due(what + " top", x.top(), top);
        due(what + " bottom", x.bottom(), bottom);
    }

    void finish() {
        System.out.println(wrong == 0 ? asked + " answers are as due" : wrong + " of " + asked + " answers are not as due");
        if (wrong != 0 || asked == 0) {
            System.exit(1);
        }
    }

    /** Feeds a text, with blanks behind it; answers how long it is. */
    static int feed(OneSeat x, String text) {
        for (int at = 0; at < text.length(); at += 20) {
            x.feed(four(text, at), four(text, at + 4), four(text, at + 8), four(text, at + 12), four(text, at + 16));
        }
        return text.length();
    }

    private static int four(String text, int at) {
        int bytes = 0;
        for (int k = at; k < at + 4; k++) {
            bytes = bytes << 8 | (k < text.length() ? text.charAt(k) & 255 : ' ');
        }
        return bytes;
    }

    static int stage(OneSeat x, String text) {
        return x.stage(feed(x, text));
    }

    static int week(OneSeat x, String text) {
        return x.week(feed(x, text));
    }

    /** A NIGHT by hand: what the spectator does, a digit a SCENE. */
    static int night(OneSeat x, String deeds) {
        x.tray(3, 0, 12);
        for (int k = 0; k < deeds.length(); k++) {
            x.write(3, k, deeds.charAt(k) - '0');
        }
        return x.night(3, deeds.length());
    }

    /** A new object with a STAGE that has to be right. */
    static OneSeat with(String text) {
        OneSeat x = new OneSeat();
        if (stage(x, text) == OneSeat.NONE) {
            throw new IllegalStateException("fault " + x.fault(0) + " at " + x.fault(1) + ": " + text);
        }
        return x;
    }
}
