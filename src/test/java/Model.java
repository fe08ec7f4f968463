import java.math.BigInteger;
import java.util.ArrayList;
import java.util.Arrays;
import java.util.HashMap;
import java.util.HashSet;
import java.util.LinkedHashSet;
import java.util.List;
import java.util.Map;
import java.util.Set;
import java.util.TreeSet;

/**
 * The document said a second time, without a thought of speed or room: with lists, maps, big numbers and exceptions,
 * by trying out whatever can be. RandomTest holds OneSeat against it.
 */
final class Model {
    static final int NONE = -1;
    private static final Set<String> NO_NAMES = new HashSet<>(Arrays.asList(("role actor pay breath not scene lines with ends"
        + " then tear laugh sleep kills kind lots tears laughs sleeps play bar open buy spare when seen dead nights ended loop"
        + " end stop").split(" ")));
    private static final String[] WAY_WORDS = {"then", "tear", "laugh", "sleep"};

    private static final class Refused extends RuntimeException {
        private static final long serialVersionUID = 1L;
        final int why;

        Refused(int why) {
            super("" + why, null, false, false);
            this.why = why;
        }
    }

    private static final class Faulted extends RuntimeException {
        private static final long serialVersionUID = 1L;
        final int kind;
        final int place;

        Faulted(int kind, int place) {
            super("" + kind, null, false, false);
            this.kind = kind;
            this.place = place;
        }
    }

    private static final class Actor {
        int cost;
        int breath;
        final Set<Integer> not = new TreeSet<>();
    }

    private static final class Scene {
        int lines;
        final Set<Integer> with = new TreeSet<>();
        int ends = NONE;
        final int[] ways = {NONE, NONE, NONE, NONE};
        int kills = NONE;

        int breaths() {
            return lines * with.size();
        }
    }

    private static final class Kind {
        int lots;
        final int[] share = new int[4];
    }

    private static final class Play {
        final List<String> roleNames = new ArrayList<>();
        final List<String> actorNames = new ArrayList<>();
        final List<String> sceneNames = new ArrayList<>();
        final List<String> kindNames = new ArrayList<>();
        final List<Actor> actors = new ArrayList<>();
        final List<Scene> scenes = new ArrayList<>();
        final List<Kind> kinds = new ArrayList<>();
    }

    private static final class Step {
        String word;
        int arg = NONE;
        String test;
        char sign;
        final List<Step> body = new ArrayList<>();
    }

    private static final class Entry {
        final List<Integer> row = new ArrayList<>();
        int ending = NONE;
        int kind = NONE;
        int breaths;
    }

    /** What a MARK keeps. */
    private static final class Kept {
        Play play = new Play();
        Set<Integer> barred = new TreeSet<>();
        Set<Integer> dead = new TreeSet<>();
        List<Entry> book = new ArrayList<>();
        List<Step> week;

        Kept copy() {
            Kept k = new Kept();
            k.play = play;
            k.barred = new TreeSet<>(barred);
            k.dead = new TreeSet<>(dead);
            k.book = new ArrayList<>(book);
            k.week = week;
            return k;
        }
    }

    private final long[][] trays = new long[4][];
    private final int[] sorts = new int[4];
    private final List<Integer> tape = new ArrayList<>();
    private int status = 0;
    private BigInteger top = BigInteger.ZERO;
    private BigInteger bottom = BigInteger.ONE;
    private int faultKind = NONE;
    private int faultPlace = NONE;
    private Kept now = new Kept();
    private final List<Kept> marks = new ArrayList<>();
    private List<Integer> steering = new ArrayList<>();
    private int[] casting = new int[0];
    private int[] ran = null;

    private interface Call {
        long answer();
    }

    private long call(long otherwise, Call c) {
        try {
            long a = c.answer();
            status = 0;
            return a;
        } catch (Refused r) {
            status = r.why;
            return otherwise;
        }
    }

    private static void need(boolean holds, int why) {
        if (!holds) {
            throw new Refused(why);
        }
    }

    private static int bits(Iterable<Integer> set) {
        int b = 0;
        for (int e : set) {
            b |= 1 << e;
        }
        return b;
    }

    private long fraction(BigInteger up, BigInteger down) {
        BigInteger g = up.gcd(down);
        top = up.divide(g);
        bottom = down.divide(g);
        return 1;
    }

    int status() {
        return status;
    }

    long top() {
        return top.longValueExact();
    }

    long bottom() {
        return bottom.longValueExact();
    }

    // ---- TRAYS

    long tray(int t, int sort, int many) {
        return call(0, () -> {
            need(t >= 0 && t < 4 && sort >= 0 && sort < 4, 1);
            need(many <= 60, 5);
            need(many >= 0, 6);
            trays[t] = new long[many];
            sorts[t] = sort;
            return 1;
        });
    }

    private void needPlace(int t, int place) {
        need(t >= 0 && t < 4, 1);
        need(trays[t] != null, 3);
        need(place >= 0 && place < trays[t].length, 4);
    }

    long write(int t, int place, long v) {
        return call(0, () -> {
            needPlace(t, place);
            int shift = 64 - (8 << sorts[t]);
            trays[t][place] = v << shift >> shift;
            return 1;
        });
    }

    long read(int t, int place) {
        return call(NONE, () -> {
            needPlace(t, place);
            return trays[t][place];
        });
    }

    long pour(int t, int i, int to, int j, int many) {
        return call(0, () -> {
            need(t >= 0 && t < 4 && to >= 0 && to < 4, 1);
            need(trays[t] != null && trays[to] != null, 3);
            need(sorts[t] == sorts[to], 11);
            need(many >= 0, 6);
            need(i >= 0 && j >= 0 && (long) i + many <= trays[t].length && (long) j + many <= trays[to].length, 4);
            long[] copy = trays[t].clone();
            for (int k = 0; k < many; k++) {
                trays[to][j + k] = copy[i + k];
            }
            return 1;
        });
    }

    // ---- texts

    int feed(int... five) {
        if (tape.size() > 880) {
            return NONE;
        }
        for (int v : five) {
            for (int k = 3; k >= 0; k--) {
                tape.add(v >>> 8 * k & 255);
            }
        }
        return tape.size();
    }

    private static final class Token {
        char sort; // w word, n number, e end, b bad, or the sign
        String text = "";
        int place;

        boolean isName() {
            return sort == 'w' && text.length() <= 8 && !NO_NAMES.contains(text);
        }
    }

    private static List<Token> tokens(String text) {
        List<Token> all = new ArrayList<>();
        java.util.regex.Matcher m = java.util.regex.Pattern.compile("[a-z]+|[0-9]+|[ \n]+|.", java.util.regex.Pattern.DOTALL).matcher(text);
        while (m.find()) {
            String s = m.group();
            char c = s.charAt(0);
            if (c == ' ' || c == '\n') {
                continue;
            }
            Token t = new Token();
            t.text = s;
            t.place = m.start();
            t.sort = 'b';
            if (c >= 'a' && c <= 'z') {
                t.sort = 'w';
            } else if (c >= '0' && c <= '9') {
                t.sort = s.length() <= 4 ? 'n' : 'b';
            } else if (";<>=".indexOf(c) >= 0) {
                t.sort = c;
            }
            all.add(t);
        }
        Token end = new Token();
        end.sort = 'e';
        end.place = text.length();
        all.add(end);
        return all;
    }

    /** Goes over TOKENS; each of its demands faults the TOKEN at hand. */
    private static final class Walk {
        final List<Token> all;
        int at = 0;

        Walk(String text) {
            all = tokens(text);
        }

        Token here() {
            return all.get(at);
        }

        Faulted fault(int kind) {
            return new Faulted(kind, here().place);
        }

        void right(boolean may) {
            if (here().sort == 'b') {
                throw fault(1);
            }
            if (!may) {
                throw fault(2);
            }
        }

        boolean isWord(String w) {
            return here().sort == 'w' && here().text.equals(w);
        }

        void word(String w) {
            right(isWord(w));
            at++;
        }

        boolean mayWord(String w) {
            if (isWord(w)) {
                at++;
                return true;
            }
            return false;
        }

        void sign(char c) {
            right(here().sort == c);
            at++;
        }

        int number(int least, int most) {
            right(here().sort == 'n');
            int v = Integer.parseInt(here().text);
            if (v < least || v > most) {
                throw fault(4);
            }
            at++;
            return v;
        }

        int known(List<String> names) {
            right(here().isName());
            int k = names.indexOf(here().text);
            if (k < 0) {
                throw fault(3);
            }
            at++;
            return k;
        }

        String fresh(Play p) {
            right(here().isName());
            String n = here().text;
            if (p.roleNames.contains(n) || p.actorNames.contains(n) || p.sceneNames.contains(n) || p.kindNames.contains(n)) {
                throw fault(3);
            }
            at++;
            return n;
        }

        void room(List<String> names, int most) {
            if (names.size() >= most) {
                throw fault(6);
            }
            at++;
        }

        void roleList(Play p, Set<Integer> into) {
            do {
                right(here().isName());
                int k = p.roleNames.indexOf(here().text);
                if (k < 0) {
                    throw fault(3);
                }
                if (!into.add(k)) {
                    throw fault(5);
                }
                at++;
            } while (here().isName());
        }
    }

    private static Play parsePlay(String text) {
        Play p = new Play();
        Walk w = new Walk(text);
        while (w.here().sort != 'e') {
            if (w.isWord("role")) {
                w.room(p.roleNames, 6);
                String n = w.fresh(p);
                w.sign(';');
                p.roleNames.add(n);
            } else if (w.isWord("actor")) {
                w.room(p.actorNames, 6);
                parseActor(p, w);
            } else if (w.isWord("scene")) {
                w.room(p.sceneNames, 12);
                parseScene(p, w);
            } else if (w.isWord("kind")) {
                w.room(p.kindNames, 4);
                parseKind(p, w);
            } else {
                w.right(false);
            }
        }
        return p;
    }

    private static void parseActor(Play p, Walk w) {
        String n = w.fresh(p);
        Actor a = new Actor();
        w.word("pay");
        a.cost = w.number(0, 99);
        w.word("breath");
        a.breath = w.number(0, 999);
        if (w.mayWord("not")) {
            w.roleList(p, a.not);
        }
        w.sign(';');
        p.actorNames.add(n);
        p.actors.add(a);
    }

    private static void parseScene(Play p, Walk w) {
        String n = w.fresh(p);
        Scene s = new Scene();
        w.word("lines");
        s.lines = w.number(1, 20);
        if (w.mayWord("with")) {
            w.roleList(p, s.with);
        }
        if (w.mayWord("ends")) {
            s.ends = w.number(0, 8);
        }
        for (int k = 0; k < 4; k++) {
            if (w.mayWord(WAY_WORDS[k])) {
                s.ways[k] = w.known(p.sceneNames);
            }
        }
        if (w.mayWord("kills")) {
            s.kills = w.known(p.roleNames);
        }
        w.sign(';');
        p.sceneNames.add(n);
        p.scenes.add(s);
    }

    private static void parseKind(Play p, Walk w) {
        String n = w.fresh(p);
        Kind k = new Kind();
        w.word("lots");
        k.lots = w.number(1, 30);
        String[] words = {"tears", "laughs", "sleeps"};
        int sum = 0;
        for (int d = 0; d < 3; d++) {
            w.word(words[d]);
            k.share[d + 1] = w.number(0, 16 - sum);
            sum += k.share[d + 1];
        }
        k.share[0] = 16 - sum;
        w.sign(';');
        p.kindNames.add(n);
        p.kinds.add(k);
    }

    private static int parseSteps(Play p, Walk w, List<Step> into, int depth, int before) {
        int count = before;
        while (true) {
            if (w.here().sort == 'e') {
                w.right(depth == 0);
                return count;
            }
            if (w.isWord("end")) {
                w.right(depth > 0);
                w.at++;
                w.sign(';');
                return count;
            }
            Step s = new Step();
            s.word = w.here().sort == 'w' ? w.here().text : "";
            boolean block = s.word.equals("when") || s.word.equals("loop");
            w.right(Arrays.asList("play", "bar", "open", "buy", "spare", "when", "loop", "stop").contains(s.word));
            if (count == 30) {
                throw w.fault(6);
            }
            if (block && depth == 3) {
                throw w.fault(7);
            }
            w.at++;
            count++;
            parseRest(p, w, s);
            w.sign(';');
            into.add(s);
            if (block) {
                count = parseSteps(p, w, s.body, depth + 1, count);
            }
        }
    }

    private static void parseRest(Play p, Walk w, Step s) {
        if (s.word.equals("play") && w.here().sort != ';') {
            s.arg = w.known(p.kindNames);
        } else if (s.word.equals("bar") || s.word.equals("open")) {
            s.arg = w.known(p.sceneNames);
        } else if (s.word.equals("buy") || s.word.equals("spare")) {
            s.arg = w.known(p.roleNames);
        } else if (s.word.equals("loop")) {
            s.arg = w.number(1, 99);
        } else if (s.word.equals("when")) {
            s.test = w.here().text;
            if (w.mayWord("seen")) {
                s.arg = w.known(p.sceneNames);
            } else if (w.mayWord("dead")) {
                s.arg = w.known(p.roleNames);
            } else if (w.mayWord("ended")) {
                s.arg = w.number(0, 9);
            } else if (w.mayWord("nights")) {
                w.right("<>=".indexOf(w.here().sort) >= 0);
                s.sign = w.here().sort;
                w.at++;
                s.arg = w.number(0, 99);
            } else {
                w.right(false);
            }
        }
    }

    private String takeTape(int n) {
        StringBuilder b = new StringBuilder();
        for (int k = 0; k < n; k++) {
            b.append((char) (int) tape.get(k));
        }
        tape.clear();
        return b.toString();
    }

    private void faulted(Faulted f) {
        faultKind = f.kind;
        faultPlace = f.place;
        throw new Refused(10);
    }

    private void noFault() {
        faultKind = 0;
        faultPlace = NONE;
    }

    long stage(int n) {
        return call(NONE, () -> {
            need(n >= 0 && n <= tape.size(), 5);
            try {
                Play p = parsePlay(takeTape(n));
                noFault();
                now = new Kept();
                now.play = p;
            } catch (Faulted f) {
                faulted(f);
            }
            return now.play.scenes.size();
        });
    }

    long week(int n) {
        return call(NONE, () -> {
            need(n >= 0 && n <= tape.size() && n <= 300, 5);
            int count = 0;
            try {
                List<Step> steps = new ArrayList<>();
                count = parseSteps(now.play, new Walk(takeTape(n)), steps, 0, 0);
                noFault();
                now.week = steps;
            } catch (Faulted f) {
                faulted(f);
            }
            return count;
        });
    }

    int fault(int what) {
        return what == 0 ? faultKind : what == 1 ? faultPlace : NONE;
    }

    long many(int what) {
        return call(NONE, () -> {
            need(what >= 0 && what <= 7, 5);
            int lines = now.play.scenes.stream().mapToInt(s -> s.lines).sum();
            int[] all = {now.play.roleNames.size(), now.play.actors.size(), now.play.scenes.size(), now.play.kinds.size(),
                now.book.size(), bits(now.barred), bits(now.dead), lines};
            return all[what];
        });
    }

    private Scene sceneOf(int scene) {
        need(scene >= 0 && scene < now.play.scenes.size(), 2);
        return now.play.scenes.get(scene);
    }

    private void needRole(int role) {
        need(role >= 0 && role < now.play.roleNames.size(), 2);
    }

    long scene(int scene, int what) {
        return call(NONE, () -> {
            Scene s = sceneOf(scene);
            need(what >= 0 && what <= 8, 5);
            int[] all = {s.lines, bits(s.with), s.ends, s.ways[0], s.ways[1], s.ways[2], s.ways[3], s.kills, s.breaths()};
            need(all[what] != NONE, 8);
            return all[what];
        });
    }

    long kind(int kind, int what) {
        return call(NONE, () -> {
            need(kind >= 0 && kind < now.play.kinds.size(), 2);
            need(what >= 0 && what <= 3, 5);
            Kind k = now.play.kinds.get(kind);
            return what == 0 ? k.lots : k.share[what];
        });
    }

    long actor(int actor, int what) {
        return call(NONE, () -> {
            need(actor >= 0 && actor < now.play.actors.size(), 2);
            need(what >= 0 && what <= 2, 5);
            Actor a = now.play.actors.get(actor);
            return what == 0 ? a.cost : what == 1 ? a.breath : bits(a.not);
        });
    }

    private static void put(Set<Integer> set, int e, boolean is) {
        if (is) {
            set.add(e);
        } else {
            set.remove(e);
        }
    }

    long bar(int scene, boolean is) {
        return call(0, () -> {
            sceneOf(scene);
            put(now.barred, scene, is);
            return 1;
        });
    }

    long kill(int role, boolean is) {
        return call(0, () -> {
            needRole(role);
            put(now.dead, role, is);
            return 1;
        });
    }

    // ---- NIGHTS

    private int rand;

    private int draw(int n) {
        rand = (int) ((rand * 2903L + 7187L) % 65536L);
        return rand / 8 % n;
    }

    /** What can be played: a SCENE behind these, while these are dead; NONE if it is the CURTAIN. */
    private int may(int scene, List<Integer> row, Set<Integer> dead) {
        if (scene < 0 || now.barred.contains(scene)) {
            return NONE;
        }
        for (int r : now.play.scenes.get(scene).with) {
            if (dead.contains(r)) {
                return NONE;
            }
            for (int before : row) {
                if (now.play.scenes.get(before).kills == r) {
                    return NONE;
                }
            }
        }
        return scene;
    }

    private int first(Set<Integer> dead) {
        return may(now.play.scenes.size() - 1, new ArrayList<>(), dead);
    }

    private int next(List<Integer> row, int deed, Set<Integer> dead) {
        Scene s = now.play.scenes.get(row.get(row.size() - 1));
        int to = s.ways[deed] != NONE ? s.ways[deed] : s.ways[0];
        return may(to, row, dead);
    }

    private interface Doer {
        int deed(int k);
    }

    private Entry play(Doer doer, int kind) {
        Entry e = new Entry();
        e.kind = kind;
        int scene = first(now.dead);
        for (int k = 0; scene != NONE; k++) {
            e.row.add(scene);
            e.breaths += now.play.scenes.get(scene).breaths();
            e.ending = now.play.scenes.get(scene).ends;
            scene = next(e.row, doer.deed(k), now.dead);
        }
        return e;
    }

    private void note(Entry e) {
        now.book.add(0, e);
        if (now.book.size() > 20) {
            now.book.remove(20);
        }
    }

    private int drawKind() {
        int all = now.play.kinds.stream().mapToInt(k -> k.lots).sum();
        int d = draw(all);
        for (int k = 0; ; k++) {
            d -= now.play.kinds.get(k).lots;
            if (d < 0) {
                return k;
            }
        }
    }

    private int drawDeed(int kind) {
        int d = draw(16);
        int[] share = now.play.kinds.get(kind).share;
        if (d < share[1]) {
            return 1;
        }
        if (d < share[1] + share[2]) {
            return 2;
        }
        return d < share[1] + share[2] + share[3] ? 3 : 0;
    }

    long night(int t, int many) {
        return call(NONE, () -> {
            need(t >= 0 && t < 4, 1);
            need(trays[t] != null, 3);
            need(many >= 0 && many <= 12, 5);
            need(many <= trays[t].length, 4);
            for (int k = 0; k < many; k++) {
                need(trays[t][k] >= 0 && trays[t][k] <= 3, 5);
            }
            need(first(now.dead) != NONE, 9);
            Entry e = play(k -> k < many ? (int) trays[t][k] : 0, NONE);
            note(e);
            return bits(e.row);
        });
    }

    long lot(int seed) {
        return call(NONE, () -> {
            need(seed >= 0 && seed <= 9999, 5);
            need(!now.play.kinds.isEmpty(), 8);
            need(first(now.dead) != NONE, 9);
            rand = seed;
            int kind = drawKind();
            note(play(k -> drawDeed(kind), kind));
            return kind;
        });
    }

    long book(int k, int what) {
        return call(NONE, () -> {
            need(what >= 0 && what <= 3, 5);
            need(k >= 0 && k < now.book.size(), 8);
            Entry e = now.book.get(k);
            return what == 0 ? bits(e.row) : what == 1 ? e.ending : what == 2 ? e.kind : e.breaths;
        });
    }

    long unseen() {
        return call(NONE, () -> {
            Set<Integer> left = new TreeSet<>();
            for (int s = 0; s < now.play.scenes.size(); s++) {
                left.add(s);
            }
            now.book.forEach(e -> left.removeAll(e.row));
            return bits(left);
        });
    }

    private int ledTo(int line) {
        List<Integer> all = new ArrayList<>();
        for (int s = 0; s < now.play.scenes.size(); s++) {
            for (int k = 0; k < now.play.scenes.get(s).lines; k++) {
                all.add(s);
            }
        }
        need(line >= 0 && line < all.size(), 5);
        return all.get(line);
    }

    long led(int line) {
        return call(NONE, () -> ledTo(line));
    }

    long heard(int line) {
        return call(NONE, () -> {
            Integer scene = ledTo(line);
            return now.book.stream().filter(e -> e.row.contains(scene)).count();
        });
    }

    long suspects(int ending) {
        return call(NONE, () -> {
            need(ending >= 0 && ending <= 8, 5);
            Set<Integer> left = null;
            for (Entry e : now.book) {
                if (e.ending == ending) {
                    for (int s : e.row) {
                        if (left == null) {
                            left = new TreeSet<>(now.play.scenes.get(s).with);
                        }
                        left.retainAll(now.play.scenes.get(s).with);
                    }
                }
            }
            need(left != null, 8);
            return bits(left);
        });
    }

    // ---- odds: every row of SCENES with its odds, in parts of 16 to the 12th

    private static final BigInteger WHOLE = BigInteger.valueOf(16).pow(12);

    private Map<List<Integer>, BigInteger> outcomes(int kind, Set<Integer> dead) {
        Map<List<Integer>, BigInteger> all = new HashMap<>();
        int f = first(dead);
        if (f != NONE) {
            spread(all, new ArrayList<>(List.of(f)), WHOLE, kind, dead);
        }
        return all;
    }

    private void spread(Map<List<Integer>, BigInteger> all, List<Integer> row, BigInteger w, int kind, Set<Integer> dead) {
        Map<Integer, Integer> to = new HashMap<>();
        for (int d = 0; d < 4; d++) {
            to.merge(next(row, d, dead), now.play.kinds.get(kind).share[d], Integer::sum);
        }
        to.forEach((scene, share) -> {
            BigInteger part = w.multiply(BigInteger.valueOf(share)).divide(BigInteger.valueOf(16));
            if (share == 0) {
                return;
            }
            if (scene == NONE) {
                all.merge(new ArrayList<>(row), part, BigInteger::add);
            } else {
                row.add(scene);
                spread(all, row, part, kind, dead);
                row.remove(row.size() - 1);
            }
        });
    }

    private int endOf(List<Integer> row) {
        int e = now.play.scenes.get(row.get(row.size() - 1)).ends;
        return e == NONE ? 9 : e;
    }

    private interface Worth {
        int of(List<Integer> row);
    }

    private BigInteger sumFor(int kind, Set<Integer> dead, Worth worth) {
        BigInteger sum = BigInteger.ZERO;
        for (Map.Entry<List<Integer>, BigInteger> e : outcomes(kind, dead).entrySet()) {
            sum = sum.add(e.getValue().multiply(BigInteger.valueOf(worth.of(e.getKey()))));
        }
        return sum;
    }

    private BigInteger sumByLot(Set<Integer> dead, Worth worth) {
        BigInteger sum = BigInteger.ZERO;
        for (int k = 0; k < now.play.kinds.size(); k++) {
            sum = sum.add(sumFor(k, dead, worth).multiply(BigInteger.valueOf(now.play.kinds.get(k).lots)));
        }
        return sum;
    }

    private BigInteger allLots() {
        return BigInteger.valueOf(now.play.kinds.stream().mapToInt(k -> k.lots).sum());
    }

    private long tell(int kind, Worth worth) {
        need(kind != NONE || !now.play.kinds.isEmpty(), 8);
        need(first(now.dead) != NONE, 9);
        return kind == NONE ? fraction(sumByLot(now.dead, worth), WHOLE.multiply(allLots()))
            : fraction(sumFor(kind, now.dead, worth), WHOLE);
    }

    private void needKindOrLot(int kind) {
        need(kind >= NONE && kind < now.play.kinds.size(), 2);
    }

    long odds(int ending, int kind) {
        return call(0, () -> {
            needKindOrLot(kind);
            need(ending >= 0 && ending <= 9, 5);
            return tell(kind, row -> endOf(row) == ending ? 1 : 0);
        });
    }

    long seen(int scene, int kind) {
        return call(0, () -> {
            sceneOf(scene);
            needKindOrLot(kind);
            return tell(kind, row -> row.contains(scene) ? 1 : 0);
        });
    }

    long who(int kind, int ending) {
        return call(0, () -> {
            need(kind >= 0 && kind < now.play.kinds.size(), 2);
            need(ending >= 0 && ending <= 9, 5);
            Worth w = row -> endOf(row) == ending ? 1 : 0;
            BigInteger all = sumByLot(now.dead, w);
            need(all.signum() > 0, 8);
            return fraction(sumFor(kind, now.dead, w).multiply(BigInteger.valueOf(now.play.kinds.get(kind).lots)), all);
        });
    }

    private int breathsOf(List<Integer> row) {
        return row.stream().mapToInt(s -> now.play.scenes.get(s).breaths()).sum();
    }

    long mean(int kind) {
        return call(0, () -> {
            needKindOrLot(kind);
            return tell(kind, this::breathsOf);
        });
    }

    // ---- what can be

    private Set<List<Integer>> allRows() {
        Set<List<Integer>> all = new LinkedHashSet<>();
        int f = first(now.dead);
        if (f != NONE) {
            grow(all, new ArrayList<>(List.of(f)));
        }
        return all;
    }

    private void grow(Set<List<Integer>> all, List<Integer> row) {
        Set<Integer> to = new HashSet<>();
        for (int d = 0; d < 4; d++) {
            to.add(next(row, d, now.dead));
        }
        for (int scene : to) {
            if (scene == NONE) {
                all.add(new ArrayList<>(row));
            } else {
                row.add(scene);
                grow(all, row);
                row.remove(row.size() - 1);
            }
        }
    }

    private Set<List<Integer>> someRows() {
        Set<List<Integer>> all = allRows();
        need(!all.isEmpty(), 9);
        return all;
    }

    long ways() {
        return call(NONE, () -> someRows().size());
    }

    long length(int what) {
        return call(NONE, () -> {
            need(what == 0 || what == 1, 5);
            TreeSet<Integer> lengths = new TreeSet<>();
            someRows().forEach(r -> lengths.add(r.size()));
            return what == 0 ? lengths.last() : lengths.first();
        });
    }

    long can(int what) {
        return call(NONE, () -> {
            need(what == 0 || what == 1, 5);
            Set<Integer> set = new TreeSet<>();
            for (List<Integer> row : allRows()) {
                if (what == 0) {
                    set.addAll(row);
                } else {
                    set.add(endOf(row));
                }
            }
            return bits(set);
        });
    }

    long by(int scene) {
        return call(NONE, () -> {
            sceneOf(scene);
            Set<Integer> set = new TreeSet<>();
            for (List<Integer> row : allRows()) {
                if (row.contains(scene)) {
                    set.add(endOf(row));
                }
            }
            return bits(set);
        });
    }

    long fewest() {
        return call(NONE, () -> {
            Set<Integer> sets = new HashSet<>();
            someRows().forEach(r -> sets.add(bits(r)));
            int goal = 0;
            for (int s : sets) {
                goal |= s;
            }
            Set<Integer> reached = new HashSet<>(Set.of(0));
            for (int nights = 1; ; nights++) {
                Set<Integer> further = new HashSet<>();
                for (int a : reached) {
                    for (int b : sets) {
                        further.add(a | b);
                    }
                }
                if (further.contains(goal)) {
                    return nights;
                }
                reached = further;
            }
        });
    }

    long steer(int ending) {
        return call(NONE, () -> {
            need(ending >= 0 && ending <= 9, 5);
            int f = first(now.dead);
            need(f != NONE, 8);
            for (int many = 1; many <= 12; many++) {
                List<Integer> deeds = new ArrayList<>();
                if (steerOn(new ArrayList<>(List.of(f)), deeds, ending, many)) {
                    steering = deeds;
                    return many;
                }
            }
            throw new Refused(8);
        });
    }

    /** The first row of deeds, in their order, that ends right behind so many SCENES. */
    private boolean steerOn(List<Integer> row, List<Integer> deeds, int ending, int many) {
        Set<Integer> met = new HashSet<>();
        for (int d = 0; d < 4; d++) {
            int to = next(row, d, now.dead);
            if (!met.add(to)) {
                continue;
            }
            deeds.add(d);
            if (row.size() == many && to == NONE && endOf(row) == ending) {
                return true;
            }
            if (row.size() < many && to != NONE) {
                row.add(to);
                if (steerOn(row, deeds, ending, many)) {
                    return true;
                }
                row.remove(row.size() - 1);
            }
            deeds.remove(deeds.size() - 1);
        }
        return false;
    }

    long steerAt(int k) {
        return call(NONE, () -> {
            need(k >= 0 && k < steering.size(), 8);
            return steering.get(k);
        });
    }

    // ---- deaths, casting

    long death(int ending) {
        return call(NONE, () -> {
            need(ending >= 0 && ending <= 9, 5);
            need(!now.play.kinds.isEmpty(), 8);
            Worth w = row -> endOf(row) == ending ? 1 : 0;
            BigInteger before = sumByLot(now.dead, w);
            BigInteger most = BigInteger.ZERO;
            int found = NONE;
            for (int r = 0; r < now.play.roleNames.size(); r++) {
                Set<Integer> dead = new TreeSet<>(now.dead);
                dead.add(r);
                BigInteger change = sumByLot(dead, w).subtract(before).abs();
                if (!now.dead.contains(r) && change.compareTo(most) > 0) {
                    most = change;
                    found = r;
                }
            }
            need(found != NONE, 8);
            fraction(most, WHOLE.multiply(allLots()));
            return found;
        });
    }

    private int linesOf(int role) {
        return now.play.scenes.stream().filter(s -> s.with.contains(role)).mapToInt(s -> s.lines).sum();
    }

    long cast(int nights) {
        return call(NONE, () -> {
            need(nights >= 1 && nights <= 7, 5);
            Set<Integer> used = new TreeSet<>();
            now.play.scenes.forEach(s -> used.addAll(s.with));
            need(!used.isEmpty(), 8);
            List<Integer> roles = new ArrayList<>(used);
            int most = (int) Math.pow(now.play.actors.size(), roles.size());
            int best = NONE;
            for (int code = 0; code < most; code++) {
                int[] by = new int[6];
                Arrays.fill(by, NONE);
                int rest = code;
                for (int k = roles.size() - 1; k >= 0; k--) {
                    by[roles.get(k)] = rest % now.play.actors.size();
                    rest /= now.play.actors.size();
                }
                int pay = payOf(by, nights);
                if (pay != NONE && (best == NONE || pay < best)) {
                    best = pay;
                    casting = by;
                }
            }
            need(best != NONE, 9);
            return best;
        });
    }

    private int payOf(int[] by, int nights) {
        int pay = 0;
        int[] left = now.play.actors.stream().mapToInt(a -> a.breath).toArray();
        for (int r = 0; r < 6; r++) {
            if (by[r] != NONE) {
                Actor a = now.play.actors.get(by[r]);
                left[by[r]] -= linesOf(r) * nights;
                if (a.not.contains(r) || left[by[r]] < 0) {
                    return NONE;
                }
                pay += linesOf(r) * nights * a.cost;
            }
        }
        for (Scene s : now.play.scenes) {
            Set<Integer> there = new HashSet<>();
            for (int r : s.with) {
                if (!there.add(by[r])) {
                    return NONE;
                }
            }
        }
        return pay;
    }

    long castAt(int role) {
        return call(NONE, () -> {
            need(role >= 0 && role <= 5, 5);
            need(role < casting.length && casting[role] != NONE, 8);
            return casting[role];
        });
    }

    long breaths(int role, int nights) {
        return call(NONE, () -> {
            needRole(role);
            need(nights >= 1 && nights <= 7, 5);
            return linesOf(role) * nights;
        });
    }

    // ---- WEEKS

    private static final class Stopped extends RuntimeException {
        private static final long serialVersionUID = 1L;

        Stopped() {
            super(null, null, false, false);
        }
    }

    private int[] told; // STEPS, SEEN, ENDINGS, BREATHS, not played, NIGHTS, the latest ENDING

    private int[] runWeek(int seed) {
        Kept before = now.copy();
        told = new int[] {0, 0, 0, 0, 0, 0, NONE};
        rand = seed;
        try {
            doSteps(now.week);
        } catch (Stopped s) {
            // no more is done
        }
        now.barred = before.barred;
        now.dead = before.dead;
        return told;
    }

    private void doSteps(List<Step> steps) {
        for (Step s : steps) {
            if (told[0] == 200) {
                throw new Stopped();
            }
            told[0]++;
            switch (s.word) {
                case "play" -> playStep(s.arg);
                case "bar", "open" -> put(now.barred, s.arg, s.word.equals("bar"));
                case "buy", "spare" -> put(now.dead, s.arg, s.word.equals("buy"));
                case "stop" -> throw new Stopped();
                case "loop" -> {
                    for (int k = 0; k < s.arg; k++) {
                        doSteps(s.body);
                    }
                }
                default -> {
                    if (holds(s)) {
                        doSteps(s.body);
                    }
                }
            }
        }
    }

    private boolean holds(Step s) {
        return switch (s.test) {
            case "seen" -> (told[1] >> s.arg & 1) == 1;
            case "dead" -> now.dead.contains(s.arg);
            case "ended" -> told[6] == s.arg;
            default -> s.sign == '<' ? told[5] < s.arg : s.sign == '>' ? told[5] > s.arg : told[5] == s.arg;
        };
    }

    private void playStep(int named) {
        if (first(now.dead) == NONE || now.play.kinds.isEmpty()) {
            told[4]++;
            return;
        }
        int kind = named == NONE ? drawKind() : named;
        Entry e = play(k -> drawDeed(kind), kind);
        note(e);
        told[1] |= bits(e.row);
        told[6] = endOf(e.row);
        told[2] |= 1 << told[6];
        told[3] += e.breaths;
        told[5]++;
    }

    long run(int seed) {
        return call(NONE, () -> {
            need(seed >= 0 && seed <= 9999, 5);
            need(now.week != null, 8);
            ran = runWeek(seed);
            return ran[5];
        });
    }

    long ran(int what) {
        return call(NONE, () -> {
            need(what >= 0 && what <= 4, 5);
            need(ran != null, 8);
            return ran[what];
        });
    }

    long often(int ending, int seed, int many) {
        return call(0, () -> {
            need(ending >= 0 && ending <= 9 && seed >= 0 && many >= 1 && many <= 20 && (long) seed + many - 1 <= 9999, 5);
            need(now.week != null, 8);
            int count = 0;
            List<Entry> kept = now.book;
            for (int k = 0; k < many; k++) {
                now.book = new ArrayList<>(kept);
                count += runWeek(seed + k)[2] >> ending & 1;
            }
            now.book = kept;
            return fraction(BigInteger.valueOf(count), BigInteger.valueOf(many));
        });
    }

    // ---- MARKS

    long mark() {
        return call(NONE, () -> {
            need(marks.size() < 3, 7);
            marks.add(now.copy());
            return marks.size();
        });
    }

    long back() {
        return call(NONE, () -> {
            need(!marks.isEmpty(), 8);
            now = marks.remove(marks.size() - 1);
            return marks.size();
        });
    }
}
