import java.util.Arrays;

/** A theatre that plays each night to one spectator, by lot. What it must do is told in DOC.md, promise by promise. */
public final class OneSeat {
    public static final int NONE = -1;

    private static final int MOST_TRAYS = 4;
    private static final int MOST_PLACES = 60;
    private static final int MOST_TAPE = 900;
    private static final int MOST_WEEK_TEXT = 300;
    private static final int MOST_ROLES = 6;
    private static final int MOST_ACTORS = 6;
    private static final int MOST_SCENES = 12;
    private static final int MOST_KINDS = 4;
    private static final int MOST_DEEDS = 12;
    private static final int MOST_SEED = 9999;
    private static final int MOST_MARKS = 3;
    private static final int MOST_NIGHTS_CAST = 7;
    private static final int MOST_SEEDS = 20;
    /** The sets of ROLES there can be. */
    private static final int ROLE_SETS = 1 << MOST_ROLES;
    /** What a spectator can do behind a SCENE: nothing, a TEAR, a LAUGH, SLEEP. */
    private static final int DEEDS = 4;
    private static final int SIXTEEN = 16;
    /** In sets and tables of ENDINGS, a NIGHT without one stands here. */
    private static final int NO_ENDING = 9;
    private static final int END_SLOTS = 10;

    // What STATUS tells of a call.
    private static final int FINE = 0;
    private static final int NO_TRAY = 1;
    private static final int NO_SUCH = 2;
    private static final int MISSING = 3;
    private static final int NO_PLACE = 4;
    private static final int BAD_NUMBER = 5;
    private static final int BELOW_ZERO = 6;
    private static final int TOO_MANY = 7;
    private static final int NOT_THERE = 8;
    private static final int CANNOT_BE = 9;
    private static final int FAULTY = 10;
    private static final int UNLIKE = 11;

    // FAULTS of a text.
    private static final int NO_TOKEN = 1;
    private static final int OUT_OF_PLACE = 2;
    private static final int WRONG_NAME = 3;
    private static final int WRONG_NUMBER = 4;
    private static final int ROLE_AGAIN = 5;
    private static final int ONE_MORE = 6;
    private static final int TOO_DEEP = 7;

    /** The words that are no NAMES; the constants below tell where each one stands here. */
    private static final String WORDS =
        "role actor pay breath not scene lines with ends then tear laugh sleep kills kind lots tears laughs sleeps play bar open buy spare when seen dead nights ended loop end stop ";
    private static final int MOST_WORDS = 32;
    private static final int ROLE = 0;
    private static final int ACTOR = 1;
    private static final int PAY = 2;
    private static final int BREATH = 3;
    private static final int NOT = 4;
    private static final int SCENE = 5;
    private static final int LINES = 6;
    private static final int WITH = 7;
    private static final int ENDS = 8;
    private static final int THEN = 9;
    private static final int KILLS = 13;
    private static final int KIND = 14;
    private static final int LOTS = 15;
    private static final int TEARS = 16;
    private static final int PLAY = 19;
    private static final int BAR = 20;
    private static final int OPEN = 21;
    private static final int BUY = 22;
    private static final int SPARE = 23;
    private static final int WHEN = 24;
    private static final int SEEN = 25;
    private static final int DEAD = 26;
    private static final int NIGHTS = 27;
    private static final int ENDED = 28;
    private static final int LOOP = 29;
    private static final int END = 30;
    private static final int STOP = 31;
    // Other sorts of TOKENS; a SIGN's sort is its own character.
    private static final int NAME = 32;
    private static final int LONG_WORD = 33;
    private static final int NUMBER = 34;
    private static final int TEXT_END = 35;
    private static final int BAD = 36;

    private final Tray[] trays = new Tray[MOST_TRAYS];
    private final Reader reader = new Reader();
    private int status;
    private long over;
    private long under = 1;
    private int faultTold = NONE;
    private int faultPlace = NONE;
    private final House house = new House(new Stage());
    private final House[] marks = new House[MOST_MARKS];
    private int marked;
    private final Night tonight = new Night();
    private final Odds chances = new Odds();
    private final Rows rows = new Rows();
    private final Casting casting = new Casting();
    private final WeekRun lastRun = new WeekRun();
    private final WeekRun trialRun = new WeekRun();
    private final int[] steering = new int[MOST_SCENES];
    private int steered;

    public OneSeat() {
        for (int k = 0; k < MOST_TRAYS; k++) {
            trays[k] = new Tray();
        }
        for (int k = 0; k < MOST_MARKS; k++) {
            marks[k] = new House(house.stage);
        }
    }

    public int status() {
        return status;
    }

    public long top() {
        return over;
    }

    public long bottom() {
        return under;
    }

    private int fail(int why) {
        status = why;
        return NONE;
    }

    private boolean refuse(int why) {
        status = why;
        return false;
    }

    private int answer(int what) {
        status = FINE;
        return what;
    }

    private boolean agree() {
        status = FINE;
        return true;
    }

    /** Tells a FRACTION; neither number is below 0, the lower one is above it. */
    private boolean tellFraction(long upper, long lower) {
        long divisor = commonDivisor(upper, lower);
        if (divisor <= 0) {
            return refuse(NOT_THERE);
        }
        over = upper / divisor;
        under = lower / divisor;
        return agree();
    }

    private static long commonDivisor(long a, long b) {
        long large = a;
        long small = b;
        for (int k = 0; k < 200 && small != 0; k++) {
            long rest = large % small;
            large = small;
            small = rest;
        }
        return large;
    }

    private static boolean isIn(int number, int least, int most) {
        return number >= least && number <= most;
    }

    private static boolean isBelow(int number, int many) {
        return number >= 0 && number < many;
    }

    private boolean hasScene(int scene) {
        return isBelow(scene, house.stage.scenes);
    }

    private boolean hasKind(int kind) {
        return isBelow(kind, house.stage.kinds);
    }

    private boolean hasRole(int role) {
        return isBelow(role, house.stage.roles);
    }

    // ---- TRAYS

    public boolean tray(int tray, int sort, int many) {
        if (!isBelow(tray, MOST_TRAYS) || !isIn(sort, 0, 3)) {
            return refuse(NO_TRAY);
        }
        if (many > MOST_PLACES) {
            return refuse(BAD_NUMBER);
        }
        if (many < 0) {
            return refuse(BELOW_ZERO);
        }
        trays[tray].layOut(sort, many);
        return agree();
    }

    public boolean write(int tray, int place, long v) {
        int why = whyNoPlace(tray, place);
        if (why != FINE) {
            return refuse(why);
        }
        trays[tray].put(place, v);
        return agree();
    }

    public long read(int tray, int place) {
        int why = whyNoPlace(tray, place);
        if (why != FINE) {
            return fail(why);
        }
        status = FINE;
        return trays[tray].row[place];
    }

    private int whyNoPlace(int tray, int place) {
        if (!isBelow(tray, MOST_TRAYS)) {
            return NO_TRAY;
        }
        if (!trays[tray].there) {
            return MISSING;
        }
        return isBelow(place, trays[tray].many) ? FINE : NO_PLACE;
    }

    public boolean pour(int tray, int i, int to, int j, int many) {
        if (!isBelow(tray, MOST_TRAYS) || !isBelow(to, MOST_TRAYS)) {
            return refuse(NO_TRAY);
        }
        Tray from = trays[tray];
        Tray into = trays[to];
        if (!from.there || !into.there) {
            return refuse(MISSING);
        }
        if (from.sort != into.sort) {
            return refuse(UNLIKE);
        }
        if (many < 0) {
            return refuse(BELOW_ZERO);
        }
        if (!from.hasPlaces(i, many) || !into.hasPlaces(j, many)) {
            return refuse(NO_PLACE);
        }
        System.arraycopy(from.row, i, into.row, j, many);
        return agree();
    }

    // ---- texts

    public int feed(int a, int b, int c, int d, int e) {
        if (reader.onTape + 20 > MOST_TAPE) {
            return NONE;
        }
        reader.putFour(a);
        reader.putFour(b);
        reader.putFour(c);
        reader.putFour(d);
        reader.putFour(e);
        return reader.onTape;
    }

    public int stage(int n) {
        if (!isIn(n, 0, reader.onTape)) {
            return fail(BAD_NUMBER);
        }
        reader.start(n);
        Stage told = new Stage();
        boolean taken = told.readFrom(reader);
        keepFault();
        if (!taken) {
            return fail(FAULTY);
        }
        house.raise(told);
        return answer(told.scenes);
    }

    public int week(int n) {
        if (!isIn(n, 0, Math.min(reader.onTape, MOST_WEEK_TEXT))) {
            return fail(BAD_NUMBER);
        }
        reader.start(n);
        Week told = new Week();
        boolean taken = told.readFrom(reader, house.stage);
        keepFault();
        if (!taken) {
            return fail(FAULTY);
        }
        house.week = told;
        return answer(told.steps);
    }

    private void keepFault() {
        faultTold = reader.fault;
        faultPlace = reader.place;
    }

    public int fault(int what) {
        if (what == 0) {
            return faultTold;
        }
        return what == 1 ? faultPlace : NONE;
    }

    public int many(int what) {
        switch (what) {
            case 0:
                return answer(house.stage.roles);
            case 1:
                return answer(house.stage.actors);
            case 2:
                return answer(house.stage.scenes);
            case 3:
                return answer(house.stage.kinds);
            case 4:
                return answer(house.book.many);
            case 5:
                return answer(house.barred);
            case 6:
                return answer(house.dead);
            case 7:
                return answer(house.stage.linesInAll());
            default:
                return fail(BAD_NUMBER);
        }
    }

    public int scene(int scene, int what) {
        if (!hasScene(scene)) {
            return fail(NO_SUCH);
        }
        if (!isIn(what, 0, 8)) {
            return fail(BAD_NUMBER);
        }
        int told = house.stage.ofScene(scene, what);
        return told == NONE ? fail(NOT_THERE) : answer(told);
    }

    public int kind(int kind, int what) {
        if (!hasKind(kind)) {
            return fail(NO_SUCH);
        }
        if (!isIn(what, 0, 3)) {
            return fail(BAD_NUMBER);
        }
        return answer(what == 0 ? house.stage.lots[kind] : house.stage.share[kind * DEEDS + what]);
    }

    public int actor(int actor, int what) {
        if (!isBelow(actor, house.stage.actors)) {
            return fail(NO_SUCH);
        }
        switch (what) {
            case 0:
                return answer(house.stage.costs[actor]);
            case 1:
                return answer(house.stage.breath[actor]);
            case 2:
                return answer(house.stage.cannot[actor]);
            default:
                return fail(BAD_NUMBER);
        }
    }

    public boolean bar(int scene, boolean is) {
        if (!hasScene(scene)) {
            return refuse(NO_SUCH);
        }
        house.setBarred(scene, is);
        return agree();
    }

    public boolean kill(int role, boolean is) {
        if (!hasRole(role)) {
            return refuse(NO_SUCH);
        }
        house.setDead(role, is);
        return agree();
    }

    // ---- NIGHTS

    public int night(int tray, int many) {
        if (!isBelow(tray, MOST_TRAYS)) {
            return fail(NO_TRAY);
        }
        Tray deeds = trays[tray];
        if (!deeds.there) {
            return fail(MISSING);
        }
        if (!isIn(many, 0, MOST_DEEDS)) {
            return fail(BAD_NUMBER);
        }
        if (!deeds.hasPlaces(0, many)) {
            return fail(NO_PLACE);
        }
        if (!deeds.holdsDeeds(many)) {
            return fail(BAD_NUMBER);
        }
        if (!house.canOpen()) {
            return fail(CANNOT_BE);
        }
        tonight.playByHand(house, deeds.row, many);
        house.book.note(tonight);
        return answer(tonight.seen);
    }

    public int lot(int seed) {
        if (!isIn(seed, 0, MOST_SEED)) {
            return fail(BAD_NUMBER);
        }
        if (house.stage.kinds == 0) {
            return fail(NOT_THERE);
        }
        if (!house.canOpen()) {
            return fail(CANNOT_BE);
        }
        tonight.sow(seed);
        tonight.playFor(house, tonight.drawKind(house.stage));
        house.book.note(tonight);
        return answer(tonight.who);
    }

    public int book(int k, int what) {
        if (!isIn(what, 0, 3)) {
            return fail(BAD_NUMBER);
        }
        if (!isBelow(k, house.book.many)) {
            return fail(NOT_THERE);
        }
        return answer(house.book.entry(k, what));
    }

    public int unseen() {
        return answer(house.stage.allScenes() & ~house.book.seenInAll());
    }

    public int led(int line) {
        int scene = house.stage.sceneOfLine(line);
        return scene == NONE ? fail(BAD_NUMBER) : answer(scene);
    }

    public int heard(int line) {
        int scene = house.stage.sceneOfLine(line);
        return scene == NONE ? fail(BAD_NUMBER) : answer(house.book.timesSeen(scene));
    }

    public int suspects(int ending) {
        if (!isIn(ending, 0, 8)) {
            return fail(BAD_NUMBER);
        }
        int shown = house.book.seenWith(ending);
        return shown == 0 ? fail(NOT_THERE) : answer(house.stage.rolesInEach(shown));
    }

    // ---- odds

    public boolean odds(int ending, int kind) {
        if (!isKindOrLot(kind)) {
            return refuse(NO_SUCH);
        }
        if (!isIn(ending, 0, NO_ENDING)) {
            return refuse(BAD_NUMBER);
        }
        int why = whyNoOdds(kind);
        if (why != FINE) {
            return refuse(why);
        }
        chances.gather(house, kind, house.dead);
        return tellFraction(chances.came[ending], chances.whole);
    }

    public boolean seen(int scene, int kind) {
        if (!hasScene(scene) || !isKindOrLot(kind)) {
            return refuse(NO_SUCH);
        }
        int why = whyNoOdds(kind);
        if (why != FINE) {
            return refuse(why);
        }
        chances.gather(house, kind, house.dead);
        return tellFraction(chances.passed[scene], chances.whole);
    }

    public boolean who(int kind, int ending) {
        if (!hasKind(kind)) {
            return refuse(NO_SUCH);
        }
        if (!isIn(ending, 0, NO_ENDING)) {
            return refuse(BAD_NUMBER);
        }
        chances.gather(house, NONE, house.dead);
        long all = chances.came[ending];
        if (all == 0) {
            return refuse(NOT_THERE);
        }
        chances.gather(house, kind, house.dead);
        return tellFraction(chances.came[ending] * house.stage.lots[kind], all);
    }

    public boolean mean(int kind) {
        if (!isKindOrLot(kind)) {
            return refuse(NO_SUCH);
        }
        int why = whyNoOdds(kind);
        if (why != FINE) {
            return refuse(why);
        }
        chances.gather(house, kind, house.dead);
        return tellFraction(chances.breathsInAll(house.stage), chances.whole);
    }

    private boolean isKindOrLot(int kind) {
        return kind == NONE || hasKind(kind);
    }

    private int whyNoOdds(int kind) {
        if (kind == NONE && house.stage.kinds == 0) {
            return NOT_THERE;
        }
        return house.canOpen() ? FINE : CANNOT_BE;
    }

    // ---- what can be

    public int ways() {
        if (!house.canOpen()) {
            return fail(CANNOT_BE);
        }
        rows.findAll(house);
        return answer(rows.countOver());
    }

    public int length(int what) {
        if (!isIn(what, 0, 1)) {
            return fail(BAD_NUMBER);
        }
        if (!house.canOpen()) {
            return fail(CANNOT_BE);
        }
        rows.findAll(house);
        return answer(what == 0 ? rows.longest() : rows.shortest());
    }

    public int can(int what) {
        if (!isIn(what, 0, 1)) {
            return fail(BAD_NUMBER);
        }
        rows.findAll(house);
        return answer(what == 0 ? rows.canSee() : rows.endingsBy(house.stage, house.stage.allScenes()));
    }

    public int by(int scene) {
        if (!hasScene(scene)) {
            return fail(NO_SUCH);
        }
        rows.findAll(house);
        return answer(rows.endingsBy(house.stage, 1 << scene));
    }

    public int fewest() {
        if (!house.canOpen()) {
            return fail(CANNOT_BE);
        }
        rows.findAll(house);
        return answer(rows.fewestForAll());
    }

    public int steer(int ending) {
        if (!isIn(ending, 0, NO_ENDING)) {
            return fail(BAD_NUMBER);
        }
        rows.findAll(house);
        int many = rows.shortestTo(house.stage, ending);
        if (many == 0) {
            return fail(NOT_THERE);
        }
        rows.steerTo(house, ending, many, steering);
        steered = many;
        return answer(many);
    }

    public int steerAt(int k) {
        return isBelow(k, steered) && k < MOST_SCENES ? answer(steering[k]) : fail(NOT_THERE);
    }

    // ---- deaths, casting

    public int death(int ending) {
        if (!isIn(ending, 0, NO_ENDING)) {
            return fail(BAD_NUMBER);
        }
        chances.gather(house, NONE, house.dead);
        long whole = chances.whole;
        long now = chances.came[ending];
        long most = 0;
        int worst = NONE;
        for (int role = 0; role < house.stage.roles; role++) {
            chances.gather(house, NONE, house.dead | 1 << role);
            long change = Math.abs(chances.came[ending] - now);
            if (change > most) {
                most = change;
                worst = role;
            }
        }
        if (worst == NONE) {
            return fail(NOT_THERE);
        }
        tellFraction(most, whole);
        return answer(worst);
    }

    public int cast(int nights) {
        if (!isIn(nights, 1, MOST_NIGHTS_CAST)) {
            return fail(BAD_NUMBER);
        }
        if (house.stage.rolesInAny() == 0) {
            return fail(NOT_THERE);
        }
        int pay = casting.findBest(house.stage, nights);
        return pay == NONE ? fail(CANNOT_BE) : answer(pay);
    }

    public int castAt(int role) {
        if (!isBelow(role, MOST_ROLES)) {
            return fail(BAD_NUMBER);
        }
        int player = casting.kept[role];
        return player == NONE ? fail(NOT_THERE) : answer(player);
    }

    public int breaths(int role, int nights) {
        if (!hasRole(role)) {
            return fail(NO_SUCH);
        }
        if (!isIn(nights, 1, MOST_NIGHTS_CAST)) {
            return fail(BAD_NUMBER);
        }
        return answer(house.stage.linesOfRole(role) * nights);
    }

    // ---- WEEKS

    public int run(int seed) {
        if (!isIn(seed, 0, MOST_SEED)) {
            return fail(BAD_NUMBER);
        }
        if (house.week == null) {
            return fail(NOT_THERE);
        }
        lastRun.go(house, seed, true);
        return answer(lastRun.nights);
    }

    public int ran(int what) {
        if (!isIn(what, 0, 4)) {
            return fail(BAD_NUMBER);
        }
        return lastRun.done ? answer(lastRun.told(what)) : fail(NOT_THERE);
    }

    public boolean often(int ending, int seed, int many) {
        if (!isIn(ending, 0, NO_ENDING) || !isIn(seed, 0, MOST_SEED) || !isIn(many, 1, MOST_SEEDS)) {
            return refuse(BAD_NUMBER);
        }
        if (seed + many - 1 > MOST_SEED) {
            return refuse(BAD_NUMBER);
        }
        if (house.week == null) {
            return refuse(NOT_THERE);
        }
        int came = 0;
        for (int k = 0; k < many; k++) {
            trialRun.go(house, seed + k, false);
            came += trialRun.endings >> ending & 1;
        }
        return tellFraction(came, many);
    }

    // ---- MARKS

    public int mark() {
        if (!isBelow(marked, MOST_MARKS)) {
            return fail(TOO_MANY);
        }
        marks[marked++].takeFrom(house);
        return answer(marked);
    }

    public int back() {
        if (!isIn(marked, 1, MOST_MARKS)) {
            return fail(NOT_THERE);
        }
        house.takeFrom(marks[--marked]);
        return answer(marked);
    }

    /** A TRAY: a row of numbers of one sort, or MISSING. */
    private static final class Tray {
        final long[] row = new long[MOST_PLACES];
        boolean there;
        int sort;
        int many;

        void layOut(int newSort, int newMany) {
            Arrays.fill(row, 0L);
            there = true;
            sort = newSort;
            many = newMany;
        }

        void put(int place, long v) {
            row[place] = cut(v);
        }

        private long cut(long v) {
            switch (sort) {
                case 0:
                    return (byte) v;
                case 1:
                    return (short) v;
                case 2:
                    return (int) v;
                default:
                    return v;
            }
        }

        boolean hasPlaces(int from, int howMany) {
            return from >= 0 && howMany >= 0 && (long) from + howMany <= many;
        }

        boolean holdsDeeds(int howMany) {
            for (int k = 0; k < howMany && k < many; k++) {
                if (row[k] < 0 || row[k] >= DEEDS) {
                    return false;
                }
            }
            return true;
        }
    }

    /** The tape: reads the TEXT on it, TOKEN by TOKEN, and keeps its first FAULT. */
    private static final class Reader {
        private static final int NAME_LETTERS = 8;
        private static final int NUMBER_DIGITS = 4;

        private final byte[] tape = new byte[MOST_TAPE];
        private final long[] words = new long[MOST_WORDS];
        int onTape;
        private int end;
        private int at;
        private int next;
        /** Of the TOKEN it stands at: its sort, and its letters or its number. */
        int sort;
        long name;
        private int number;
        /** The number taken latest, or which one the NAME taken latest is of its sort. */
        int taken;
        int fault;
        int place;

        Reader() {
            int word = 0;
            long letters = 0;
            for (int k = 0; k < WORDS.length() && word < MOST_WORDS; k++) {
                char c = WORDS.charAt(k);
                if (c == ' ') {
                    words[word++] = letters;
                    letters = 0;
                } else {
                    letters = withLetter(letters, c);
                }
            }
        }

        private static long withLetter(long letters, int c) {
            return letters << 5 | (c - 'a' + 1);
        }

        /** The bytes of a number, the highest first. */
        void putFour(int bytes) {
            for (int shift = 24; shift >= 0 && onTape < MOST_TAPE; shift -= 8) {
                tape[onTape++] = (byte) (bytes >> shift);
            }
        }

        /** Begins with the TEXT of so many bytes; nothing is on the tape any more then. */
        void start(int many) {
            end = Math.max(0, Math.min(many, MOST_TAPE));
            onTape = 0;
            next = 0;
            fault = 0;
            place = NONE;
            advance();
        }

        void advance() {
            while (next < end && (tape[next] == ' ' || tape[next] == '\n')) {
                next++;
            }
            at = next;
            if (at >= end) {
                sort = TEXT_END;
                return;
            }
            int c = tape[at];
            if (isLetter(c)) {
                scanWord();
            } else if (isDigit(c)) {
                scanNumber();
            } else {
                sort = c == ';' || c == '<' || c == '>' || c == '=' ? c : BAD;
                next = at + 1;
            }
        }

        private static boolean isLetter(int c) {
            return c >= 'a' && c <= 'z';
        }

        private static boolean isDigit(int c) {
            return c >= '0' && c <= '9';
        }

        private void scanWord() {
            long letters = 0;
            while (next < end && isLetter(tape[next])) {
                if (next - at < NAME_LETTERS) {
                    letters = withLetter(letters, tape[next]);
                }
                next++;
            }
            name = letters;
            sort = next - at > NAME_LETTERS ? LONG_WORD : sortOfWord(letters);
        }

        private int sortOfWord(long letters) {
            for (int word = 0; word < MOST_WORDS; word++) {
                if (words[word] == letters) {
                    return word;
                }
            }
            return NAME;
        }

        private void scanNumber() {
            int told = 0;
            while (next < end && isDigit(tape[next])) {
                if (next - at < NUMBER_DIGITS) {
                    told = told * 10 + (tape[next] - '0');
                }
                next++;
            }
            number = told;
            sort = next - at > NUMBER_DIGITS ? BAD : NUMBER;
        }

        boolean fail(int why) {
            fault = why;
            place = at;
            return false;
        }

        /** What stands here can't, or is no TOKEN at all. */
        boolean failHere() {
            return fail(sort == BAD ? NO_TOKEN : OUT_OF_PLACE);
        }

        boolean take(int due) {
            if (sort != due) {
                return failHere();
            }
            advance();
            return true;
        }

        boolean takeNumber(int least, int most) {
            if (sort != NUMBER) {
                return failHere();
            }
            if (!isIn(number, least, most)) {
                return fail(WRONG_NUMBER);
            }
            taken = number;
            advance();
            return true;
        }

        /** Takes one of these NAMES. */
        boolean takeName(long[] names, int many) {
            if (sort != NAME) {
                return failHere();
            }
            int found = find(names, many, name);
            if (found == NONE) {
                return fail(WRONG_NAME);
            }
            taken = found;
            advance();
            return true;
        }

        static int find(long[] names, int many, long wanted) {
            for (int k = 0; k < many && k < names.length; k++) {
                if (names[k] == wanted) {
                    return k;
                }
            }
            return NONE;
        }
    }

    /** ROLES, ACTORS, SCENES and KINDS, as a TEXT tells them. */
    private static final class Stage {
        int roles;
        int actors;
        int scenes;
        int kinds;
        final long[] roleNames = new long[MOST_ROLES];
        final long[] actorNames = new long[MOST_ACTORS];
        final long[] sceneNames = new long[MOST_SCENES];
        final long[] kindNames = new long[MOST_KINDS];
        final int[] costs = new int[MOST_ACTORS];
        final int[] breath = new int[MOST_ACTORS];
        final int[] cannot = new int[MOST_ACTORS];
        final int[] lines = new int[MOST_SCENES];
        final int[] players = new int[MOST_SCENES];
        final int[] ending = new int[MOST_SCENES];
        /** To which SCENE each deed leads, as told: NONE if it is not. */
        final int[] way = new int[MOST_SCENES * DEEDS];
        final int[] victim = new int[MOST_SCENES];
        final int[] lots = new int[MOST_KINDS];
        /** With how many sixteenths a KIND does each deed. */
        final int[] share = new int[MOST_KINDS * DEEDS];

        boolean readFrom(Reader r) {
            boolean fine = true;
            for (int part = 0; part < MOST_TAPE && fine && r.sort != TEXT_END; part++) {
                switch (r.sort) {
                    case ROLE:
                        fine = readRole(r);
                        break;
                    case ACTOR:
                        fine = readActor(r);
                        break;
                    case SCENE:
                        fine = readScene(r);
                        break;
                    case KIND:
                        fine = readKind(r);
                        break;
                    default:
                        fine = r.failHere();
                }
            }
            return fine;
        }

        private boolean readRole(Reader r) {
            if (!readNew(r, roleNames, roles) || !r.take(';')) {
                return false;
            }
            roles++;
            return true;
        }

        private boolean readActor(Reader r) {
            if (!readNew(r, actorNames, actors) || !r.take(PAY) || !r.takeNumber(0, 99)) {
                return false;
            }
            costs[actors] = r.taken;
            if (!r.take(BREATH) || !r.takeNumber(0, 999)) {
                return false;
            }
            breath[actors] = r.taken;
            cannot[actors] = r.sort == NOT ? readRoles(r) : 0;
            if (cannot[actors] == NONE || !r.take(';')) {
                return false;
            }
            actors++;
            return true;
        }

        private boolean readScene(Reader r) {
            if (!readNew(r, sceneNames, scenes) || !r.take(LINES) || !r.takeNumber(1, 20)) {
                return false;
            }
            lines[scenes] = r.taken;
            players[scenes] = r.sort == WITH ? readRoles(r) : 0;
            if (players[scenes] == NONE || !readEnding(r)) {
                return false;
            }
            for (int deed = 0; deed < DEEDS; deed++) {
                if (!readWay(r, deed)) {
                    return false;
                }
            }
            if (!readVictim(r) || !r.take(';')) {
                return false;
            }
            scenes++;
            return true;
        }

        private boolean readKind(Reader r) {
            if (!readNew(r, kindNames, kinds) || !r.take(LOTS) || !r.takeNumber(1, 30)) {
                return false;
            }
            lots[kinds] = r.taken;
            int left = SIXTEEN;
            for (int deed = 1; deed < DEEDS; deed++) {
                if (!r.take(TEARS + deed - 1) || !r.takeNumber(0, left)) {
                    return false;
                }
                share[kinds * DEEDS + deed] = r.taken;
                left -= r.taken;
            }
            share[kinds * DEEDS] = left;
            if (!r.take(';')) {
                return false;
            }
            kinds++;
            return true;
        }

        /** A PART's WORD and its new NAME, which is kept behind those that are there. */
        private boolean readNew(Reader r, long[] names, int many) {
            if (many >= names.length) {
                return r.fail(ONE_MORE);
            }
            r.advance();
            if (r.sort != NAME) {
                return r.failHere();
            }
            if (isTaken(r.name)) {
                return r.fail(WRONG_NAME);
            }
            names[many] = r.name;
            r.advance();
            return true;
        }

        private boolean isTaken(long name) {
            return Reader.find(roleNames, roles, name) != NONE || Reader.find(actorNames, actors, name) != NONE
                || Reader.find(sceneNames, scenes, name) != NONE || Reader.find(kindNames, kinds, name) != NONE;
        }

        /** The set of ROLES behind with or not; NONE behind a FAULT. */
        private int readRoles(Reader r) {
            r.advance();
            int set = 0;
            for (int k = 0; k <= MOST_ROLES && (k == 0 || r.sort == NAME); k++) {
                int role = Reader.find(roleNames, roles, r.name);
                if (r.sort == NAME && role != NONE && (set >> role & 1) != 0) {
                    r.fail(ROLE_AGAIN);
                    return NONE;
                }
                if (!r.takeName(roleNames, roles)) {
                    return NONE;
                }
                set |= 1 << role;
            }
            return set;
        }

        private boolean readEnding(Reader r) {
            ending[scenes] = NONE;
            if (r.sort == ENDS) {
                r.advance();
                if (!r.takeNumber(0, 8)) {
                    return false;
                }
                ending[scenes] = r.taken;
            }
            return true;
        }

        private boolean readWay(Reader r, int deed) {
            way[scenes * DEEDS + deed] = NONE;
            if (r.sort == THEN + deed) {
                r.advance();
                if (!r.takeName(sceneNames, scenes)) {
                    return false;
                }
                way[scenes * DEEDS + deed] = r.taken;
            }
            return true;
        }

        private boolean readVictim(Reader r) {
            victim[scenes] = NONE;
            if (r.sort == KILLS) {
                r.advance();
                if (!r.takeName(roleNames, roles)) {
                    return false;
                }
                victim[scenes] = r.taken;
            }
            return true;
        }

        int ofScene(int scene, int what) {
            switch (what) {
                case 0:
                    return lines[scene];
                case 1:
                    return players[scene];
                case 2:
                    return ending[scene];
                case 7:
                    return victim[scene];
                case 8:
                    return breathsOfScene(scene);
                default:
                    return isIn(what, 3, 6) ? way[scene * DEEDS + what - 3] : NONE;
            }
        }

        int breathsOfScene(int scene) {
            return lines[scene] * Integer.bitCount(players[scene]);
        }

        /** Where a SCENE's ENDING stands in sets and tables. */
        int endSlot(int scene) {
            return ending[scene] == NONE ? NO_ENDING : ending[scene];
        }

        /** The set of whom a SCENE KILLS. */
        int killedIn(int scene) {
            return victim[scene] == NONE ? 0 : 1 << victim[scene];
        }

        int allScenes() {
            return (1 << scenes) - 1;
        }

        int linesInAll() {
            int sum = 0;
            for (int scene = 0; scene < scenes; scene++) {
                sum += lines[scene];
            }
            return sum;
        }

        int sceneOfLine(int line) {
            int ahead = 0;
            for (int scene = 0; scene < scenes; scene++) {
                ahead += lines[scene];
                if (line >= 0 && line < ahead) {
                    return scene;
                }
            }
            return NONE;
        }

        int linesOfRole(int role) {
            int sum = 0;
            for (int scene = 0; scene < scenes; scene++) {
                sum += lines[scene] * (players[scene] >> role & 1);
            }
            return sum;
        }

        int rolesInAny() {
            int set = 0;
            for (int scene = 0; scene < scenes; scene++) {
                set |= players[scene];
            }
            return set;
        }

        /** The set of ROLES that are in each one of a set of SCENES. */
        int rolesInEach(int set) {
            int all = (1 << roles) - 1;
            for (int scene = 0; scene < scenes; scene++) {
                if ((set >> scene & 1) != 0) {
                    all &= players[scene];
                }
            }
            return all;
        }

        /** The set of ROLES that are in a SCENE with this one, itself too if it is in one. */
        int rolesBeside(int role) {
            int set = 0;
            for (int scene = 0; scene < scenes; scene++) {
                if ((players[scene] >> role & 1) != 0) {
                    set |= players[scene];
                }
            }
            return set;
        }

        int lotsInAll() {
            int sum = 0;
            for (int kind = 0; kind < kinds; kind++) {
                sum += lots[kind];
            }
            return sum;
        }
    }

    /** STEPS and the ends of their blocks, in the order of the TEXT. */
    private static final class Week {
        static final int MOST_STEPS = 30;
        static final int MOST_ITEMS = 2 * MOST_STEPS;
        static final int MOST_BLOCKS = 3;

        int items;
        int steps;
        /** The WORD of a STEP; of a when that of its TEST; or END. */
        final int[] word = new int[MOST_ITEMS];
        final int[] about = new int[MOST_ITEMS];
        final int[] compares = new int[MOST_ITEMS];
        /** Of a when, a loop: its end's item; of an end: its beginning. */
        final int[] mate = new int[MOST_ITEMS];
        private final int[] open = new int[MOST_BLOCKS];
        private int depth;

        boolean readFrom(Reader r, Stage stage) {
            for (int k = 0; k < MOST_WEEK_TEXT && r.sort != TEXT_END; k++) {
                boolean fine = r.sort == END ? readEnd(r) : readStep(r, stage);
                if (!fine) {
                    return false;
                }
            }
            return depth == 0 || r.failHere();
        }

        private boolean readEnd(Reader r) {
            if (!isIn(depth, 1, MOST_BLOCKS) || items >= MOST_ITEMS) {
                return r.failHere();
            }
            int begin = open[--depth];
            mate[begin] = items;
            mate[items] = begin;
            word[items++] = END;
            r.advance();
            return r.take(';');
        }

        private boolean readStep(Reader r, Stage stage) {
            boolean block = r.sort == WHEN || r.sort == LOOP;
            if (!block && !isIn(r.sort, PLAY, SPARE) && r.sort != STOP) {
                return r.failHere();
            }
            if (steps >= MOST_STEPS || items >= MOST_ITEMS) {
                return r.fail(ONE_MORE);
            }
            if (block && depth >= MOST_BLOCKS) {
                return r.fail(TOO_DEEP);
            }
            if (r.sort == WHEN) {
                r.advance();
                if (!isIn(r.sort, SEEN, ENDED)) {
                    return r.failHere();
                }
            }
            word[items] = r.sort;
            r.advance();
            r.taken = NONE;
            if (!readRest(r, stage) || !r.take(';')) {
                return false;
            }
            about[items] = r.taken;
            if (block) {
                open[depth++] = items;
            }
            items++;
            steps++;
            return true;
        }

        /** What stands behind a STEP's WORD, or behind a TEST's. */
        private boolean readRest(Reader r, Stage stage) {
            switch (word[items]) {
                case PLAY:
                    return r.sort == ';' || r.takeName(stage.kindNames, stage.kinds);
                case BAR:
                case OPEN:
                case SEEN:
                    return r.takeName(stage.sceneNames, stage.scenes);
                case BUY:
                case SPARE:
                case DEAD:
                    return r.takeName(stage.roleNames, stage.roles);
                case LOOP:
                    return r.takeNumber(1, 99);
                case ENDED:
                    return r.takeNumber(0, NO_ENDING);
                case NIGHTS:
                    return readCompare(r) && r.takeNumber(0, 99);
                default:
                    return true;
            }
        }

        private boolean readCompare(Reader r) {
            if (r.sort != '<' && r.sort != '>' && r.sort != '=') {
                return r.failHere();
            }
            compares[items] = r.sort;
            r.advance();
            return true;
        }
    }

    /** All that a MARK keeps: the STAGE, what is BARRED and DEAD on it, the BOOK, the WEEK. */
    private static final class House {
        Stage stage;
        Week week;
        int barred;
        int dead;
        final Book book = new Book();

        House(Stage stage) {
            this.stage = stage;
        }

        void takeFrom(House other) {
            stage = other.stage;
            week = other.week;
            barred = other.barred;
            dead = other.dead;
            book.takeFrom(other.book);
        }

        void raise(Stage told) {
            stage = told;
            week = null;
            barred = 0;
            dead = 0;
            book.clear();
        }

        void setBarred(int scene, boolean is) {
            barred = is ? barred | 1 << scene : barred & ~(1 << scene);
        }

        void setDead(int role, boolean is) {
            dead = is ? dead | 1 << role : dead & ~(1 << role);
        }

        boolean canOpen() {
            return opening(dead) != NONE;
        }

        /** The FIRST SCENE, if it can be played while these ROLES are gone; else NONE. */
        int opening(int gone) {
            return playable(stage.scenes - 1, gone);
        }

        /** Which SCENE comes behind this one; NONE for the CURTAIN. */
        int onward(int scene, int deed, int gone) {
            int told = stage.way[scene * DEEDS + deed];
            return playable(told == NONE ? stage.way[scene * DEEDS] : told, gone);
        }

        private int playable(int scene, int gone) {
            if (scene < 0 || scene >= stage.scenes || (barred >> scene & 1) != 0) {
                return NONE;
            }
            return (stage.players[scene] & gone) == 0 ? scene : NONE;
        }
    }

    /** The latest NIGHTS, the latest first. */
    private static final class Book {
        private static final int MOST_NIGHTS = 20;
        private static final int COLUMNS = 4;

        int many;
        private final int[] entries = new int[MOST_NIGHTS * COLUMNS];

        void clear() {
            many = 0;
        }

        void takeFrom(Book other) {
            many = other.many;
            System.arraycopy(other.entries, 0, entries, 0, entries.length);
        }

        void note(Night night) {
            System.arraycopy(entries, 0, entries, COLUMNS, entries.length - COLUMNS);
            entries[0] = night.seen;
            entries[1] = night.ending;
            entries[2] = night.who;
            entries[3] = night.breaths;
            many = Math.min(many + 1, MOST_NIGHTS);
        }

        int entry(int k, int what) {
            return entries[k * COLUMNS + what];
        }

        int seenInAll() {
            int set = 0;
            for (int k = 0; k < many; k++) {
                set |= entry(k, 0);
            }
            return set;
        }

        int timesSeen(int scene) {
            int times = 0;
            for (int k = 0; k < many; k++) {
                times += entry(k, 0) >> scene & 1;
            }
            return times;
        }

        int seenWith(int ending) {
            int set = 0;
            for (int k = 0; k < many; k++) {
                if (entry(k, 1) == ending) {
                    set |= entry(k, 0);
                }
            }
            return set;
        }
    }

    /** A NIGHT that is played, and the draws by which one is played by LOT. */
    private static final class Night {
        int seen;
        int ending;
        int who;
        int breaths;
        private int scene;
        private int gone;
        private int seed;

        void sow(int newSeed) {
            seed = newSeed;
        }

        /** A draw by a number above 0. */
        private int draw(int by) {
            seed = seed * 2903 + 7187 & 65535;
            return by > 0 ? seed / 8 % by : 0;
        }

        int drawKind(Stage stage) {
            int left = draw(stage.lotsInAll());
            int kind = 0;
            while (kind < stage.kinds - 1 && left >= stage.lots[kind]) {
                left -= stage.lots[kind];
                kind++;
            }
            return kind;
        }

        private int drawDeed(Stage stage, int kind) {
            int left = draw(SIXTEEN);
            for (int deed = 1; deed < DEEDS; deed++) {
                int share = stage.share[kind * DEEDS + deed];
                if (left < share) {
                    return deed;
                }
                left -= share;
            }
            return 0;
        }

        void playByHand(House house, long[] deeds, int many) {
            open(house, NONE);
            for (int k = 0; k < MOST_SCENES && scene != NONE; k++) {
                playScene(house, k < many && k < deeds.length ? (int) deeds[k] : 0);
            }
        }

        void playFor(House house, int kind) {
            open(house, kind);
            for (int k = 0; k < MOST_SCENES && scene != NONE; k++) {
                playScene(house, drawDeed(house.stage, kind));
            }
        }

        private void open(House house, int kind) {
            seen = 0;
            ending = NONE;
            who = kind;
            breaths = 0;
            gone = house.dead;
            scene = house.opening(gone);
        }

        private void playScene(House house, int deed) {
            seen |= 1 << scene;
            ending = house.stage.ending[scene];
            breaths += house.stage.breathsOfScene(scene);
            gone |= house.stage.killedIn(scene);
            scene = house.onward(scene, deed, gone);
        }
    }

    /**
     * Odds, as whole weights. A way on leads to a SCENE told ahead and divides by 16: what begins with FULL
     * stays whole as far as SCENE 0.
     */
    private static final class Odds {
        /** 16 for each way on that a NIGHT can take; by all LOTS and the most BREATHS of a NIGHT it is still a long. */
        private static final long FULL = 1L << 4 * (MOST_SCENES - 1);

        /** By SCENE and by the set of ROLES that are gone ahead of it; all 0 between two calls. */
        private final long[] weight = new long[MOST_SCENES * ROLE_SETS];
        final long[] came = new long[END_SLOTS];
        final long[] passed = new long[MOST_SCENES];
        long whole;

        /** For a KIND, or by LOT (NONE), while these ROLES are gone from the beginning. */
        void gather(House house, int kind, int gone) {
            Arrays.fill(came, 0L);
            Arrays.fill(passed, 0L);
            whole = 0;
            for (int k = 0; k < house.stage.kinds; k++) {
                if (kind == NONE) {
                    spread(house, k, house.stage.lots[k] * FULL, gone);
                } else if (kind == k) {
                    spread(house, k, FULL, gone);
                }
            }
        }

        private void spread(House house, int kind, long all, int gone) {
            whole += all;
            int first = house.opening(gone);
            if (first == NONE) {
                return;
            }
            weight[first * ROLE_SETS + gone] = all;
            for (int scene = first; scene >= 0; scene--) {
                for (int set = 0; set < ROLE_SETS; set++) {
                    if (weight[scene * ROLE_SETS + set] != 0) {
                        passOn(house, kind, scene, set);
                    }
                }
            }
        }

        private void passOn(House house, int kind, int scene, int gone) {
            long part = weight[scene * ROLE_SETS + gone];
            weight[scene * ROLE_SETS + gone] = 0;
            passed[scene] += part;
            int after = gone | house.stage.killedIn(scene);
            int curtain = 0;
            for (int deed = 0; deed < DEEDS; deed++) {
                int share = house.stage.share[kind * DEEDS + deed];
                int to = house.onward(scene, deed, after);
                if (to == NONE) {
                    curtain += share;
                } else {
                    weight[to * ROLE_SETS + after] += part / SIXTEEN * share;
                }
            }
            // SCENE 0 may weigh less than 16, but goes nowhere
            came[house.stage.endSlot(scene)] += curtain == SIXTEEN ? part : part / SIXTEEN * curtain;
        }

        long breathsInAll(Stage stage) {
            long sum = 0;
            for (int scene = 0; scene < stage.scenes; scene++) {
                sum += passed[scene] * stage.breathsOfScene(scene);
            }
            return sum;
        }
    }

    /**
     * All unlike rows of SCENES that a NIGHT can be. A row leads from SCENES told later to SCENES told ahead,
     * so the set of its SCENES tells the row, and the least SCENE of the set is its last one.
     */
    private static final class Rows {
        private static final int SETS = 1 << MOST_SCENES;
        /** Every row has the FIRST SCENE: there are half as many. */
        private static final int MOST_ROWS = SETS / 2;
        /** Marks a row behind which the CURTAIN can fall. */
        private static final int OVER = 1 << 20;

        /** The set of a row; above it, until it is looked at, who is gone behind it, then perhaps OVER. */
        private final int[] row = new int[MOST_ROWS];
        private final int[] least = new int[MOST_ROWS];
        private int many;
        private int first;

        void findAll(House house) {
            many = 0;
            int opening = house.opening(house.dead);
            first = opening == NONE ? 0 : 1 << opening;
            if (opening != NONE) {
                add(house, 0, opening, house.dead);
            }
            for (int k = 0; k < many && k < MOST_ROWS; k++) {
                goOn(house, k);
            }
        }

        private void add(House house, int set, int scene, int gone) {
            if (many < MOST_ROWS) {
                row[many++] = set | 1 << scene | (gone | house.stage.killedIn(scene)) << MOST_SCENES;
            }
        }

        private void goOn(House house, int k) {
            int set = row[k] & SETS - 1;
            int gone = row[k] >> MOST_SCENES;
            int scene = lastOf(set);
            int met = 0;
            row[k] = set;
            for (int deed = 0; deed < DEEDS; deed++) {
                int to = house.onward(scene, deed, gone);
                if (to == NONE) {
                    row[k] |= OVER;
                } else if ((met >> to & 1) == 0) {
                    met |= 1 << to;
                    add(house, set, to, gone);
                }
            }
        }

        private static int lastOf(int set) {
            return Integer.numberOfTrailingZeros(set);
        }

        private boolean isOver(int k) {
            return (row[k] & OVER) != 0;
        }

        /** How many SCENES a row that is OVER has. */
        private int lengthOf(int k) {
            return Integer.bitCount(row[k]) - 1;
        }

        int countOver() {
            int count = 0;
            for (int k = 0; k < many; k++) {
                count += isOver(k) ? 1 : 0;
            }
            return count;
        }

        int longest() {
            int most = 0;
            for (int k = 0; k < many; k++) {
                most = isOver(k) ? Math.max(most, lengthOf(k)) : most;
            }
            return most;
        }

        int shortest() {
            int fewest = MOST_SCENES;
            for (int k = 0; k < many; k++) {
                fewest = isOver(k) ? Math.min(fewest, lengthOf(k)) : fewest;
            }
            return fewest;
        }

        int canSee() {
            int set = 0;
            for (int k = 0; k < many; k++) {
                set |= row[k];
            }
            return set & SETS - 1;
        }

        /** The ENDINGS of NIGHTS that have SEEN one of these SCENES. */
        int endingsBy(Stage stage, int scenes) {
            int set = 0;
            for (int k = 0; k < many; k++) {
                if (isOver(k) && (row[k] & scenes) != 0) {
                    set |= 1 << stage.endSlot(lastOf(row[k]));
                }
            }
            return set;
        }

        private boolean endsAt(Stage stage, int k, int ending) {
            return isOver(k) && stage.endSlot(lastOf(row[k])) == ending;
        }

        /** After how many SCENES an ENDING can come; 0 if it can't. */
        int shortestTo(Stage stage, int ending) {
            int fewest = 0;
            for (int k = 0; k < many; k++) {
                if (endsAt(stage, k, ending) && (fewest == 0 || lengthOf(k) < fewest)) {
                    fewest = lengthOf(k);
                }
            }
            return fewest;
        }

        /** The least row of deeds that leads to the ENDING by so many SCENES. */
        void steerTo(House house, int ending, int length, int[] deeds) {
            int set = first;
            int gone = house.dead;
            for (int k = 0; k < length && k < deeds.length; k++) {
                int scene = lastOf(set);
                gone |= house.stage.killedIn(scene);
                for (int deed = 0; deed < DEEDS; deed++) {
                    int to = house.onward(scene, deed, gone);
                    boolean right = k + 1 == length ? to == NONE
                        : to != NONE && someGoesBy(house.stage, set | 1 << to, ending, length);
                    if (right) {
                        deeds[k] = deed;
                        set = to == NONE ? set : set | 1 << to;
                        break;
                    }
                }
            }
        }

        /** Whether a row of this length to the ENDING begins so. */
        private boolean someGoesBy(Stage stage, int begin, int ending, int length) {
            int last = lastOf(begin);
            for (int k = 0; k < many; k++) {
                boolean same = (row[k] & SETS - 1) >> last == begin >> last;
                if (same && endsAt(stage, k, ending) && lengthOf(k) == length) {
                    return true;
                }
            }
            return false;
        }

        /** FEWEST: by what is left to be SEEN, from all down to nothing; the first NIGHT has the FIRST SCENE at once. */
        int fewestForAll() {
            int all = canSee() & ~first;
            if (all == 0) {
                return 1;
            }
            Arrays.fill(least, MOST_SCENES);
            least[all] = 0;
            for (int left = all; left > 0; left--) {
                if (least[left] + 1 < least[0]) {
                    showMore(left);
                }
            }
            return least[0];
        }

        /** Some NIGHT has to show the least SCENE that is left; with which one to begin makes no odds. */
        private void showMore(int left) {
            int wanted = 1 << lastOf(left);
            int nights = least[left] + 1;
            for (int k = 0; k < many; k++) {
                if (isOver(k) && (row[k] & wanted) != 0) {
                    int rest = left & ~row[k];
                    least[rest] = Math.min(least[rest], nights);
                }
            }
        }
    }

    /** Looks for the CASTING of the least PAY, and keeps the latest. */
    private static final class Casting {
        final int[] kept = new int[MOST_ROLES];
        private final int[] tried = new int[MOST_ROLES];
        private final int[] best = new int[MOST_ROLES];
        private final int[] needs = new int[MOST_ROLES];
        private final int[] beside = new int[MOST_ROLES];
        private final int[] plays = new int[MOST_ACTORS];
        private final int[] spent = new int[MOST_ACTORS];
        private int leastPay;

        Casting() {
            Arrays.fill(kept, NONE);
        }

        /** The PAY, or NONE if no CASTING can be. */
        int findBest(Stage stage, int nights) {
            for (int role = 0; role < stage.roles; role++) {
                needs[role] = stage.linesOfRole(role) * nights;
                beside[role] = stage.rolesBeside(role);
            }
            Arrays.fill(tried, NONE);
            Arrays.fill(plays, 0);
            Arrays.fill(spent, 0);
            leastPay = NONE;
            choose(stage, 0, 0);
            if (leastPay != NONE) {
                System.arraycopy(best, 0, kept, 0, MOST_ROLES);
            }
            return leastPay;
        }

        /** Goes one deeper a ROLE, six at the most; the least ACTORS come first, so only less PAY is better. */
        private void choose(Stage stage, int from, int pay) {
            if (leastPay != NONE && pay >= leastPay) {
                return;
            }
            int role = from;
            while (role < stage.roles && role < MOST_ROLES && beside[role] == 0) {
                role++;
            }
            if (role >= stage.roles || role >= MOST_ROLES) {
                leastPay = pay;
                System.arraycopy(tried, 0, best, 0, MOST_ROLES);
                return;
            }
            tryActors(stage, role, pay);
        }

        private void tryActors(Stage stage, int role, int pay) {
            for (int actor = 0; actor < stage.actors; actor++) {
                if (mayPlay(stage, actor, role)) {
                    tried[role] = actor;
                    plays[actor] |= 1 << role;
                    spent[actor] += needs[role];
                    choose(stage, role + 1, pay + needs[role] * stage.costs[actor]);
                    spent[actor] -= needs[role];
                    plays[actor] &= ~(1 << role);
                }
            }
        }

        private boolean mayPlay(Stage stage, int actor, int role) {
            return (stage.cannot[actor] >> role & 1) == 0 && (plays[actor] & beside[role]) == 0
                && spent[actor] + needs[role] <= stage.breath[actor];
        }
    }

    /** A RUN of the WEEK, and what it tells. */
    private static final class WeekRun {
        private static final int MOST_DONE = 200;
        /** Far above the ends of loops that can come between so many STEPS. */
        private static final int MOST_MOVES = 1000000;

        private final Night night = new Night();
        /** By item: how often a loop is still to be done. */
        private final int[] left = new int[Week.MOST_ITEMS];
        private boolean noted;
        boolean done;
        int nights;
        int endings;
        private int steps;
        private int seen;
        private int breaths;
        private int missed;
        /** The latest NIGHT's ENDING as sets have it; NONE ahead of any. */
        private int latest;

        void go(House house, int seed, boolean isNoted) {
            Week week = house.week;
            if (week == null) {
                return;
            }
            int barred = house.barred;
            int dead = house.dead;
            begin(seed, isNoted);
            int at = 0;
            for (int k = 0; k < MOST_MOVES && isBelow(at, week.items) && steps < MOST_DONE; k++) {
                at = week.word[at] == END ? comeToEnd(week, at) : doStep(house, week, at);
            }
            house.barred = barred;
            house.dead = dead;
            done = true;
        }

        private void begin(int seed, boolean isNoted) {
            night.sow(seed);
            noted = isNoted;
            nights = 0;
            endings = 0;
            steps = 0;
            seen = 0;
            breaths = 0;
            missed = 0;
            latest = NONE;
        }

        /** Answers which item comes next. */
        private int comeToEnd(Week week, int at) {
            int begin = week.mate[at];
            if (week.word[begin] != LOOP) {
                return at + 1;
            }
            left[begin]--;
            return left[begin] > 0 ? begin + 1 : at + 1;
        }

        private int doStep(House house, Week week, int at) {
            int about = week.about[at];
            steps++;
            switch (week.word[at]) {
                case PLAY:
                    playNight(house, about);
                    return at + 1;
                case BAR:
                case OPEN:
                    house.setBarred(about, week.word[at] == BAR);
                    return at + 1;
                case BUY:
                case SPARE:
                    house.setDead(about, week.word[at] == BUY);
                    return at + 1;
                case LOOP:
                    left[at] = about;
                    return at + 1;
                case STOP:
                    return week.items;
                default:
                    return holds(house, week, at) ? at + 1 : week.mate[at] + 1;
            }
        }

        private boolean holds(House house, Week week, int at) {
            int about = week.about[at];
            switch (week.word[at]) {
                case SEEN:
                    return (seen >> about & 1) != 0;
                case DEAD:
                    return (house.dead >> about & 1) != 0;
                case ENDED:
                    return latest == about;
                default:
                    return compares(week.compares[at], nights, about);
            }
        }

        private static boolean compares(int sign, int number, int other) {
            if (sign == '<') {
                return number < other;
            }
            return sign == '>' ? number > other : number == other;
        }

        private void playNight(House house, int kind) {
            if (!house.canOpen() || house.stage.kinds == 0) {
                missed++;
                return;
            }
            night.playFor(house, kind == NONE ? night.drawKind(house.stage) : kind);
            nights++;
            seen |= night.seen;
            breaths += night.breaths;
            latest = night.ending == NONE ? NO_ENDING : night.ending;
            endings |= 1 << latest;
            if (noted) {
                house.book.note(night);
            }
        }

        int told(int what) {
            switch (what) {
                case 0:
                    return steps;
                case 1:
                    return seen;
                case 2:
                    return endings;
                case 3:
                    return breaths;
                default:
                    return missed;
            }
        }
    }
}
