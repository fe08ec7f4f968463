import java.util.Random;

/** Holds OneSeat against Model, by seeded runs of at most 512 calls each: all answers, STATUS and FRACTIONS. */
public final class RandomTest {
    private static final int[] FAR = {Integer.MIN_VALUE, Integer.MAX_VALUE, -1, -2, 1 << 20, 10000, 9999, 64, 32, 31};

    private final Check check = new Check();
    private final Random random;
    private final Texts texts;
    private OneSeat x;
    private Model m;
    private String told;
    private int calls;

    private RandomTest(long seed) {
        random = new Random(seed);
        texts = new Texts(random);
    }

    private int below(int n) {
        return random.nextInt(n);
    }

    /** Most often 0 to n - 1, at times just beside, rarely far off. */
    private int near(int n) {
        int sort = below(30);
        if (sort == 0) {
            return FAR[below(FAR.length)];
        }
        return sort == 1 ? n : sort == 2 ? -1 : below(Math.max(1, n));
    }

    private void same(String call, long got, long want) {
        calls += 2;
        check.due(told + " " + call, got, want);
        check.due(told + " " + call + " status()", x.status(), m.status());
    }

    private void same(String call, boolean got, long want) {
        same(call, got ? 1 : 0, want);
        calls += 2;
        check.due(told + " " + call + " top()", x.top(), m.top());
        check.due(told + " " + call + " bottom()", x.bottom(), m.bottom());
    }

    private int feed(String text) {
        for (int at = 0; at < text.length(); at += 20) {
            int[] v = new int[5];
            calls++;
            for (int k = 0; k < 20; k++) {
                v[k / 4] = v[k / 4] << 8 | (at + k < text.length() ? text.charAt(at + k) & 255 : ' ');
            }
            check.due(told + " feed", x.feed(v[0], v[1], v[2], v[3], v[4]), m.feed(v));
        }
        return text.length();
    }

    private void newStage(int large) {
        String text = texts.stage(large);
        if (text.length() > 900) {
            text = texts.stage(4);
        }
        if (below(4) == 0) {
            text = texts.spoil(text);
        }
        int n = feed(text);
        same("stage " + text, x.stage(n), m.stage(n));
        faults();
    }

    private void newWeek() {
        String text = texts.week(below(3) == 0 ? 30 : 8);
        if (below(4) == 0) {
            text = texts.spoil(text);
        }
        int n = Math.min(feed(text), below(20) == 0 ? 301 : 300);
        same("week " + text, x.week(n), m.week(n));
        faults();
    }

    private void faults() {
        calls += 3;
        check.due(told + " fault(0)", x.fault(0), m.fault(0));
        check.due(told + " fault(1)", x.fault(1), m.fault(1));
        check.due(told + " fault(2)", x.fault(2), m.fault(2));
    }

    private void oddText() {
        int n = near(900);
        if (below(2) == 0) {
            same("stage", x.stage(n), m.stage(n));
        } else {
            same("week", x.week(n), m.week(n));
        }
        faults();
    }

    private void trayCall() {
        int t = near(4);
        int u = near(4);
        int p = near(16);
        int q = near(16);
        int many = near(16);
        int sort = below(3) == 0 ? near(4) : 0;
        long v = below(2) == 0 ? below(5) : random.nextLong();
        switch (below(8)) {
            case 0 -> same("tray", x.tray(t, sort, many), m.tray(t, sort, many));
            case 1, 2, 3 -> same("write", x.write(t, p, v), m.write(t, p, v));
            case 4, 5 -> same("read", x.read(t, p), m.read(t, p));
            default -> same("pour", x.pour(t, p, u, q, many), m.pour(t, p, u, q, many));
        }
    }

    private void layOut() {
        int t = near(4);
        int sort = near(4);
        int many = below(4) == 0 ? near(61) : near(16);
        same("tray", x.tray(t, sort, many), m.tray(t, sort, many));
    }

    private void byHand() {
        int t = below(4);
        for (int k = 0; k < 5; k++) {
            int p = below(12);
            int v = below(40) == 0 ? 4 : below(4);
            same("write", x.write(t, p, v), m.write(t, p, v));
        }
        int many = near(13);
        same("night", x.night(t, many), m.night(t, many));
    }

    private void stageCall() {
        int a = near(12);
        int b = near(9);
        switch (below(6)) {
            case 0 -> same("many", x.many(b), m.many(b));
            case 1 -> same("scene", x.scene(a, b), m.scene(a, b));
            case 2 -> same("kind", x.kind(a % 4, b % 5), m.kind(a % 4, b % 5));
            case 3 -> same("actor", x.actor(a % 6, b % 4), m.actor(a % 6, b % 4));
            case 4 -> {
                boolean is = below(4) == 0;
                same("bar", x.bar(a, is), m.bar(a, is));
            }
            default -> {
                boolean is = below(4) == 0;
                same("kill", x.kill(a % 7, is), m.kill(a % 7, is));
            }
        }
    }

    private void nightCall() {
        int a = near(80);
        switch (below(7)) {
            case 0, 1 -> {
                int seed = near(10000);
                same("lot", x.lot(seed), m.lot(seed));
            }
            case 2 -> {
                int k = near(21);
                int what = near(4);
                same("book", x.book(k, what), m.book(k, what));
            }
            case 3 -> same("unseen", x.unseen(), m.unseen());
            case 4 -> same("led", x.led(a), m.led(a));
            case 5 -> same("heard", x.heard(a), m.heard(a));
            default -> same("suspects", x.suspects(a % 9), m.suspects(a % 9));
        }
    }

    private void oddsCall() {
        int end = near(10);
        int kind = near(5) - 1;
        int scene = near(12);
        switch (below(4)) {
            case 0 -> same("odds", x.odds(end, kind), m.odds(end, kind));
            case 1 -> same("seen", x.seen(scene, kind), m.seen(scene, kind));
            case 2 -> same("who", x.who(kind, end), m.who(kind, end));
            default -> same("mean", x.mean(kind), m.mean(kind));
        }
    }

    private void canBeCall() {
        int end = near(10);
        int scene = near(12);
        int what = near(2);
        switch (below(7)) {
            case 0 -> same("ways", x.ways(), m.ways());
            case 1 -> same("length", x.length(what), m.length(what));
            case 2 -> same("can", x.can(what), m.can(what));
            case 3 -> same("by", x.by(scene), m.by(scene));
            case 4 -> same("fewest", x.fewest(), m.fewest());
            default -> {
                same("steer", x.steer(end), m.steer(end));
                for (int k = -1; k < 12; k++) {
                    same("steerAt", x.steerAt(k), m.steerAt(k));
                }
            }
        }
    }

    private void deathOrCast() {
        int end = near(10);
        int nights = near(8);
        int role = near(6);
        switch (below(3)) {
            case 0 -> same("death", x.death(end) * 2L, m.death(end) * 2L);
            case 1 -> {
                same("cast", x.cast(nights), m.cast(nights));
                for (int k = -1; k < 7; k++) {
                    same("castAt", x.castAt(k), m.castAt(k));
                }
            }
            default -> same("breaths", x.breaths(role, nights), m.breaths(role, nights));
        }
        calls += 2;
        check.due(told + " top()", x.top(), m.top());
        check.due(told + " bottom()", x.bottom(), m.bottom());
    }

    private void weekCall() {
        int seed = near(10000);
        switch (below(3)) {
            case 0 -> {
                int end = near(10);
                int many = near(21);
                same("often", x.often(end, seed, many), m.often(end, seed, many));
            }
            default -> {
                same("run", x.run(seed), m.run(seed));
                for (int k = -1; k < 6; k++) {
                    same("ran", x.ran(k), m.ran(k));
                }
            }
        }
    }

    private void markCall() {
        if (below(2) == 0) {
            same("mark", x.mark(), m.mark());
        } else {
            same("back", x.back(), m.back());
        }
    }

    private void one(int large) {
        switch (below(20)) {
            case 0 -> newStage(below(3) == 0 ? large : 1 + below(large));
            case 1 -> newWeek();
            case 2 -> trayCall();
            case 3 -> layOut();
            case 4, 5 -> byHand();
            case 6, 7 -> stageCall();
            case 8, 9, 10 -> nightCall();
            case 11, 12 -> oddsCall();
            case 13, 14, 15 -> canBeCall();
            case 16 -> deathOrCast();
            case 17, 18 -> weekCall();
            default -> {
                if (below(10) == 0) {
                    oddText();
                } else {
                    markCall();
                }
            }
        }
    }

    private void runOf(int run) {
        x = new OneSeat();
        m = new Model();
        told = "run " + run;
        calls = 0;
        int large = run % 4 == 0 ? 12 : 7;
        if (below(4) != 0) {
            newStage(large);
            newWeek();
        }
        // no turn takes more than 60
        for (int k = 0; calls <= 512 - 60; k++) {
            told = "run " + run + " turn " + k;
            one(large);
        }
    }

    public static void main(String[] args) {
        int runs = args.length > 0 ? Integer.parseInt(args[0]) : 1500;
        RandomTest test = new RandomTest(args.length > 1 ? Long.parseLong(args[1]) : 20261118L);
        for (int run = 0; run < runs; run++) {
            test.runOf(run);
        }
        test.check.finish();
    }
}
