import java.io.IOException;
import java.lang.reflect.Field;
import java.lang.reflect.Member;
import java.lang.reflect.Method;
import java.lang.reflect.Modifier;
import java.nio.charset.StandardCharsets;
import java.nio.file.Files;
import java.nio.file.Path;
import java.util.ArrayList;
import java.util.Arrays;
import java.util.HashSet;
import java.util.List;
import java.util.Set;
import java.util.TreeSet;
import java.util.regex.Matcher;
import java.util.regex.Pattern;

/** The face of the document, LANGUAGE.md as far as a text or a class tells it, and the room that 512 calls take. */
public final class RulesTest {
    private static final Check CHECK = new Check();
    private static final String[] FACE = {"int status()", "long top()", "long bottom()", "boolean tray(int,int,int)",
        "boolean write(int,int,long)", "long read(int,int)", "boolean pour(int,int,int,int,int)", "int feed(int,int,int,int,int)",
        "int stage(int)", "int week(int)", "int fault(int)", "int many(int)", "int scene(int,int)", "int kind(int,int)",
        "int actor(int,int)", "boolean bar(int,boolean)", "boolean kill(int,boolean)", "int night(int,int)", "int lot(int)",
        "int book(int,int)", "int unseen()", "int led(int)", "int heard(int)", "int suspects(int)", "boolean odds(int,int)",
        "boolean seen(int,int)", "boolean who(int,int)", "boolean mean(int)", "int ways()", "int length(int)", "int can(int)",
        "int by(int)", "int fewest()", "int steer(int)", "int steerAt(int)", "int death(int)", "int cast(int)", "int castAt(int)",
        "int breaths(int,int)", "int run(int)", "int ran(int)", "boolean often(int,int,int)", "int mark()", "int back()"};

    public static void main(String[] args) throws IOException {
        face();
        classesInside();
        source();
        room();
        CHECK.finish();
    }

    private static void say(String what, boolean holds) {
        CHECK.due(what, holds, true);
    }

    private static void face() {
        Set<String> due = new TreeSet<>(Arrays.asList(FACE));
        Set<String> got = new TreeSet<>();
        for (Method m : OneSeat.class.getDeclaredMethods()) {
            if (!Modifier.isPrivate(m.getModifiers())) {
                List<String> types = new ArrayList<>();
                for (Class<?> c : m.getParameterTypes()) {
                    types.add(c.getName());
                }
                got.add(m.getReturnType().getName() + " " + m.getName() + "(" + String.join(",", types) + ")");
            }
        }
        say("the methods are " + got, got.equals(due));
        for (Field f : OneSeat.class.getDeclaredFields()) {
            say(f.getName() + " is private", Modifier.isPrivate(f.getModifiers()) || f.getName().equals("NONE"));
            say(f.getName() + " is no static state", !Modifier.isStatic(f.getModifiers()) || Modifier.isFinal(f.getModifiers()));
        }
        say("final", Modifier.isFinal(OneSeat.class.getModifiers()));
        say("one constructor", OneSeat.class.getConstructors().length == 1 && OneSeat.class.getDeclaredConstructors().length == 1);
    }

    private static void classesInside() {
        Set<String> face = new HashSet<>();
        for (String f : FACE) {
            face.add(f.substring(f.indexOf(' ') + 1, f.indexOf('(')));
        }
        Class<?>[] inside = OneSeat.class.getDeclaredClasses();
        say("some twelve classes", inside.length <= 13);
        for (Class<?> c : inside) {
            say(c + " is static, not public", Modifier.isStatic(c.getModifiers()) && !Modifier.isPublic(c.getModifiers()));
            List<Member> members = new ArrayList<>(Arrays.asList(c.getDeclaredMethods()));
            int fields = 0;
            for (Field f : c.getDeclaredFields()) {
                members.add(f);
                fields += Modifier.isStatic(f.getModifiers()) ? 0 : 1;
                say(f + " is no static state", !Modifier.isStatic(f.getModifiers()) || Modifier.isFinal(f.getModifiers()));
            }
            say(c + " has at most some twenty fields", fields <= 22);
            for (Member m : members) {
                say(m + " is not public", !Modifier.isPublic(m.getModifiers()));
                say(m + " has no public method's name", !(m instanceof Method) || !face.contains(m.getName()));
            }
        }
    }

    private static void source() throws IOException {
        String text = Files.readString(Path.of("src/main/java/OneSeat.java"), StandardCharsets.UTF_8);
        say("signs 1 to 127 alone", text.chars().allMatch(c -> c >= 1 && c <= 127));
        String code = text.replaceAll("(?s)/\\*.*?\\*/", "").replaceAll("//[^\n]*", "").replaceAll("\"[^\"\n]*\"", "\"\"");
        for (String word : new String[] {"throw", "throws", "try", "catch", "synchronized", "assert", "package", "volatile",
            "transient", "native", "Math\\.[a-z]+Exact", "System\\.(?!arraycopy)", "::", "hashCode", "protected", "Object", "Map",
            "Random", "Thread", "Class"}) {
            say("no " + word, !Pattern.compile("(?<![A-Za-z])" + word + "(?![A-Za-z])").matcher(code).find());
        }
        say("no lambda", Arrays.stream(code.split("\n")).allMatch(l -> !l.contains("->") || l.matches("\\s*(case .*|default) ->.*")));
        say("no text is joined by +", !Pattern.compile("\"\"\\s*\\+|\\+\\s*\"\"").matcher(code).find());
        Matcher imports = Pattern.compile("import ([^;]*);").matcher(code);
        while (imports.find()) {
            say("import " + imports.group(1), imports.group(1).matches("java\\.util\\.(Arrays|ArrayList|List|Iterator)"));
        }
        shortMethods(code);
        recursion(code);
    }

    /** Rule 8: a method that calls itself is private and static; other recursion goes through methods that call one another. */
    private static void recursion(String code) {
        Pattern header = Pattern.compile("( {4}| {8})((?:private |public |static )*)[A-Za-z\\[\\]]+ ([a-zA-Z]+)\\(.*\\) \\{");
        String head = "";
        String name = null;
        int methods = 0;
        for (String line : code.split("\n")) {
            Matcher m = header.matcher(line);
            if (m.matches()) {
                head = m.group(2);
                name = m.group(3);
                methods++;
            } else if (name != null && Pattern.compile("(?<![\\w.])" + name + "\\(").matcher(line).find()) {
                say(name + " calls itself: private static", head.equals("private static "));
            }
        }
        say("the methods of the code are found: " + methods, methods > 150);
    }

    private static void shortMethods(String code) {
        int from = -1;
        String[] lines = code.split("\n");
        for (int k = 0; k < lines.length; k++) {
            String line = lines[k];
            int indent = line.length() - line.stripLeading().length();
            if ((indent == 4 || indent == 8) && line.endsWith(") {")) {
                from = k;
            }
            if (from >= 0 && (indent == 4 || indent == 8) && line.strip().equals("}")) {
                say("line " + from + " of the code: a method of " + (k - from + 1) + " lines", k - from < 60);
                from = -1;
            }
        }
    }

    /** What is made by 512 of the dearest calls has to be far from the room that all calls have (7.3 million fields and elements). */
    private static void room() {
        com.sun.management.ThreadMXBean bean = (com.sun.management.ThreadMXBean) java.lang.management.ManagementFactory.getThreadMXBean();
        long id = Thread.currentThread().getId();
        OneSeat warm = Check.with(Check.HOUSE);
        warm.ways();
        long before = bean.getThreadAllocatedBytes(id);
        OneSeat x = new OneSeat();
        long made = bean.getThreadAllocatedBytes(id) - before;
        say("a new object takes " + made + " bytes", made < 1000000);
        before = bean.getThreadAllocatedBytes(id);
        for (int k = 0; k < 256; k++) {
            x.stage(0);
            x.week(0);
        }
        made = bean.getThreadAllocatedBytes(id) - before;
        say("512 texts take " + made + " bytes", made < 10000000);
        OneSeat y = Check.with(Check.HOUSE);
        Check.week(y, "loop 50; play; end;");
        before = bean.getThreadAllocatedBytes(id);
        for (int k = 0; k < 40; k++) {
            callAll(y, k);
        }
        made = bean.getThreadAllocatedBytes(id) - before;
        say("400 other calls take " + made + " bytes", made < 5000000);
    }

    private static void callAll(OneSeat x, int seed) {
        x.odds(1, -1);
        x.death(1);
        x.ways();
        x.fewest();
        x.steer(2);
        x.cast(1);
        x.run(seed);
        x.often(1, seed, 20);
        x.mark();
        x.back();
    }
}
