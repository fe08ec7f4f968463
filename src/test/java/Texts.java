import java.util.ArrayList;
import java.util.List;
import java.util.Random;

/** Makes texts of STAGES and WEEKS, most of them right, from a seeded row of numbers. */
final class Texts {
    private static final String[] NAMES = {"a", "b", "c", "d", "e", "f", "g", "h", "i", "j", "k", "l", "m", "n", "o", "p", "q",
        "r", "s", "t", "u", "v", "w", "x", "y", "z", "ab", "longname", "endx", "roles"};
    private static final String[] ODD = {"role", "actor", "scene", "kind", ";", "<", ">", "=", "12345", "0", "1", "999", "9999",
        "abcdefghi", "abcdefgh", "then", "tear", "laugh", "sleep", "kills", "with", "not", "ends", "lines", "end", "when", "loop",
        "stop", "play", "seen", "dead", "nights", "ended", "buy", "bar", "#", "A", "\t", "\n", "17", "16", "100", "1000", "21",
        "a", "b", "c", "d", "e", "f"};

    private final Random random;
    final List<String> roles = new ArrayList<>();
    final List<String> scenes = new ArrayList<>();
    final List<String> kinds = new ArrayList<>();
    private final List<String> free = new ArrayList<>();

    Texts(Random random) {
        this.random = random;
    }

    private int below(int n) {
        return random.nextInt(n);
    }

    private boolean one(int n) {
        return below(n) == 0;
    }

    private String fresh() {
        return free.remove(below(free.size()));
    }

    private <T> T any(List<T> list) {
        return list.get(below(list.size()));
    }

    /** A right STAGE: as large as told, of 1 to 12. */
    String stage(int large) {
        roles.clear();
        scenes.clear();
        kinds.clear();
        free.clear();
        free.addAll(List.of(NAMES));
        StringBuilder b = new StringBuilder();
        int manyRoles = below(Math.min(6, large) + 1);
        for (int k = 0; k < manyRoles; k++) {
            String n = fresh();
            b.append("role ").append(n).append(";");
            roles.add(n);
        }
        int manyActors = below(Math.min(6, large) + 1);
        for (int k = 0; k < manyActors; k++) {
            b.append("actor ").append(fresh()).append(" pay ").append(one(3) ? below(4) : below(100));
            b.append(" breath ").append(one(3) ? below(60) : 200 + below(800));
            b.append(one(3) ? list("not", 2) : "").append(";");
        }
        int manyScenes = one(20) ? 0 : one(3) ? large : 1 + below(large);
        for (int k = 0; k < manyScenes; k++) {
            scene(b, large);
        }
        int manyKinds = below(5);
        for (int k = 0; k < manyKinds; k++) {
            kind(b);
        }
        return b.toString();
    }

    private String list(String word, int most) {
        if (roles.isEmpty()) {
            return "";
        }
        List<String> left = new ArrayList<>(roles);
        StringBuilder b = new StringBuilder(" ").append(word);
        int many = 1 + below(Math.min(most, left.size()));
        for (int k = 0; k < many; k++) {
            b.append(" ").append(left.remove(below(left.size())));
        }
        return b.toString();
    }

    private void scene(StringBuilder b, int large) {
        String n = fresh();
        b.append("scene ").append(n).append(" lines ").append(1 + below(20));
        if (!one(3)) {
            b.append(list("with", large > 8 ? 2 : 3));
        }
        if (!one(3)) {
            b.append(" ends ").append(below(one(2) ? 3 : 9));
        }
        for (String way : new String[] {"then", "tear", "laugh", "sleep"}) {
            if (!scenes.isEmpty() && !one(3)) {
                int near = Math.min(scenes.size(), one(2) ? 12 : 4);
                b.append(" ").append(way).append(" ").append(scenes.get(scenes.size() - 1 - below(near)));
            }
        }
        if (!roles.isEmpty() && one(3)) {
            b.append(" kills ").append(any(roles));
        }
        b.append(";");
        scenes.add(n);
    }

    private void kind(StringBuilder b) {
        String n = fresh();
        b.append("kind ").append(n).append(" lots ").append(1 + below(30));
        int left = 16;
        for (String deed : new String[] {"tears", "laughs", "sleeps"}) {
            int share = one(4) ? left : below(Math.min(left, 7) + 1);
            b.append(" ").append(deed).append(" ").append(share);
            left -= share;
        }
        b.append(";");
        kinds.add(n);
    }

    /** A WEEK for the STAGE told latest: right but for what may be too much. */
    String week(int most) {
        StringBuilder b = new StringBuilder();
        steps(b, below(most + 1), 0);
        return b.toString();
    }

    private void steps(StringBuilder b, int many, int depth) {
        for (int k = 0; k < many && b.length() < 280; k++) {
            int sort = below(12);
            if (sort < 4) {
                b.append("play").append(one(3) && !kinds.isEmpty() ? " " + any(kinds) : "").append(";");
            } else if (sort < 6 && !scenes.isEmpty()) {
                b.append(one(2) ? "bar " : "open ").append(any(scenes)).append(";");
            } else if (sort < 8 && !roles.isEmpty()) {
                b.append(one(2) ? "buy " : "spare ").append(any(roles)).append(";");
            } else if (sort < 11 && (depth < 3 || one(10))) {
                b.append(one(2) ? "loop " + (1 + below(one(4) ? 99 : 5)) : "when " + test()).append(";");
                steps(b, below(4), depth + 1);
                b.append("end;");
            } else if (one(4)) {
                b.append("stop;");
            }
        }
    }

    private String test() {
        int sort = below(4);
        if (sort == 0 && !scenes.isEmpty()) {
            return "seen " + any(scenes);
        }
        if (sort == 1 && !roles.isEmpty()) {
            return "dead " + any(roles);
        }
        return sort == 2 ? "ended " + below(10) : "nights " + "<>=".charAt(below(3)) + " " + below(one(4) ? 100 : 6);
    }

    /** The same text with other blanks, or with something in it changed. */
    String spoil(String text) {
        String[] parts = text.split("(?<=[; ])|(?=[; ])");
        List<String> all = new ArrayList<>(List.of(parts));
        int often = 1 + below(2);
        for (int k = 0; k < often; k++) {
            int at = below(all.size());
            switch (below(6)) {
                case 0 -> all.remove(at);
                case 1 -> all.add(at, " " + ODD[below(ODD.length)] + " ");
                case 2 -> all.set(at, ODD[below(ODD.length)]);
                case 3 -> all.set(at, " " + any(all) + " ");
                case 4 -> all.add(at, one(2) ? "\n" : "   ");
                default -> all.subList(at, all.size()).clear();
            }
            if (all.isEmpty()) {
                all.add(" ");
            }
        }
        return String.join("", all);
    }
}
