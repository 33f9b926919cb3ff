import java.lang.management.ManagementFactory;
import java.lang.reflect.Constructor;
import java.lang.reflect.Field;
import java.lang.reflect.Method;
import java.lang.reflect.Modifier;
import java.nio.file.Files;
import java.nio.file.Path;
import java.util.List;
import java.util.Set;
import java.util.TreeSet;
import java.util.regex.Matcher;
import java.util.regex.Pattern;

/** The rules of LANGUAGE.md that can be looked at from outside: the face, words left out, small methods, the room. */
public final class RulesTest {
    private static final Check CHECK = new Check("RulesTest");
    private static final Path SOURCE = Path.of("src/main/java/MoodTown.java");

    private static final String[] FACE = {
        "int feed(int)", "int end(int)", "int text()", "int fault()", "int rule(int)", "int one(int,int)", "int cell(int)",
        "int mood(int,int)", "int put(int,int)", "int hold(int,boolean)", "int goal(int,int)", "int wall(int,boolean)",
        "int pull(int,int)", "int press(int)", "int force(int,int)", "int wish(int)", "int stuck()", "int strain()",
        "int go(int)", "int ahead(int,int,int)", "int rest()", "int again(int)", "int setting(int,int)", "int out()",
        "int calm(int)", "int nurse(int,int,int,int)", "int hang(int,int,int)", "long odds(int,int,int)",
        "int see(int,int)", "int forget(int)", "int moods(int)", "int crowd(int,int)", "int keep(int)", "int back(int)",
        "int sheet(int,int,int)", "int lay(int,int,int)", "int read(int,int,int,int)", "int torn()", "int count(int)"
    };

    public static void main(String[] args) throws Exception {
        face();
        inside();
        words();
        lengths();
        room();
        CHECK.close();
    }

    private static void holds(String what, boolean is) { CHECK.due(what, is ? 1 : 0, 1); }

    private static String told(Method m) {
        StringBuilder s = new StringBuilder(m.getReturnType().getName() + " " + m.getName() + "(");
        for (Class<?> p : m.getParameterTypes()) s.append(s.charAt(s.length() - 1) == '(' ? "" : ",").append(p.getName());
        return s.append(")").toString();
    }

    private static void face() {
        Set<String> due = new TreeSet<>(List.of(FACE));
        Set<String> seen = new TreeSet<>();
        for (Method m : MoodTown.class.getDeclaredMethods()) {
            if (Modifier.isPublic(m.getModifiers())) seen.add(told(m));
            else holds(m.getName() + " is private", Modifier.isPrivate(m.getModifiers()));
        }
        holds("the methods are those of the document: " + seen, seen.equals(due));
        Set<String> constants = new TreeSet<>();
        for (Field f : MoodTown.class.getDeclaredFields()) {
            if (!Modifier.isPrivate(f.getModifiers())) constants.add(f.getName());
        }
        holds("the constants are those of the document: " + constants, constants.equals(Set.of("BAD", "STATE", "FULL", "NONE")));
        CHECK.due("BAD", MoodTown.BAD, -1);
        CHECK.due("STATE", MoodTown.STATE, -2);
        CHECK.due("FULL", MoodTown.FULL, -3);
        CHECK.due("NONE", MoodTown.NONE, -4);
        Constructor<?>[] made = MoodTown.class.getDeclaredConstructors();
        holds("one constructor", made.length == 1 && Modifier.isPublic(made[0].getModifiers()) && made[0].getParameterCount() == 0);
        holds("public and final", Modifier.isPublic(MoodTown.class.getModifiers()) && Modifier.isFinal(MoodTown.class.getModifiers()));
    }

    private static void inside() {
        Set<String> names = new TreeSet<>();
        for (String f : FACE) names.add(f.substring(f.indexOf(' ') + 1, f.indexOf('(')));
        Class<?>[] classes = MoodTown.class.getDeclaredClasses();
        holds("at most twelve classes", classes.length < 12);
        for (Class<?> c : classes) {
            holds(c.getName() + " is static", Modifier.isStatic(c.getModifiers()));
            int fields = 0;
            for (Field f : c.getDeclaredFields()) {
                boolean isStatic = Modifier.isStatic(f.getModifiers());
                holds(c.getName() + "." + f.getName() + " is final if static", !isStatic || Modifier.isFinal(f.getModifiers()));
                fields += isStatic ? 0 : 1;
            }
            holds(c.getName() + " has at most twenty fields", fields <= 20);
            for (Method m : c.getDeclaredMethods()) {
                holds(m.getName() + " is no name of the face", !names.contains(m.getName()));
                holds(m.getName() + " takes at most seven", m.getParameterCount() <= 7);
            }
        }
    }

    private static void words() throws Exception {
        String code = Files.readString(SOURCE).replaceAll("(?s)/\\*.*?\\*/", "").replaceAll("//[^\n]*", "");
        for (String word : List.of("throw", "throws", "try", "catch", "synchronized", "assert", "record", "package", "Object", "Exception", "System\\.(?!arraycopy)")) {
            Matcher m = Pattern.compile("\\b" + word + (word.endsWith(")") ? "" : "\\b")).matcher(code);
            holds("no " + word, !m.find());
        }
        holds("no lambda, no method reference", !code.contains("->") && !code.contains("::"));
        Matcher imports = Pattern.compile("import ([^;]*);").matcher(code);
        while (imports.find()) holds("import of " + imports.group(1), imports.group(1).equals("java.util.Arrays"));
        Matcher calls = Pattern.compile("\\b(Math|Integer|Long|Arrays|System)\\.(\\w+)").matcher(code);
        Set<String> free = Set.of("Math.abs", "Integer.compare", "Integer.bitCount", "Arrays.fill", "System.arraycopy");
        while (calls.find()) holds(calls.group() + " is in the library", free.contains(calls.group()));
        for (char c : code.toCharArray()) if (c > 126) holds("signs to 126 alone", false);
    }

    /** From a line that opens a method to the one that ends it, by how far both stand in. */
    private static void lengths() throws Exception {
        List<String> lines = Files.readAllLines(SOURCE);
        Pattern opens = Pattern.compile("( {4}| {8})\\w[^=;]*\\(.*\\{");
        for (int i = 0; i < lines.size(); i++) {
            Matcher m = opens.matcher(lines.get(i));
            if (!m.matches()) continue;
            int end = i;
            while (!lines.get(end).equals(m.group(1) + "}")) end++;
            holds("at most sixty lines: " + lines.get(i).trim(), end - i < 60);
        }
    }

    /** The calls make no object: all rows are made by the constructor. */
    private static void room() {
        com.sun.management.ThreadMXBean machine = (com.sun.management.ThreadMXBean) ManagementFactory.getThreadMXBean();
        MoodTown x = CHECK.town("town 5 5;at 0 1;at 2 2;at 6 3;at 12 1;still 18 2;press 2;goal 0 24;goal 1 0;");
        long id = Thread.currentThread().getId();
        everyCall(x);
        long before = machine.getThreadAllocatedBytes(id);
        long plain = machine.getThreadAllocatedBytes(id) - before;
        before = machine.getThreadAllocatedBytes(id);
        for (int i = 0; i < 5; i++) everyCall(x);
        long made = machine.getThreadAllocatedBytes(id) - before - plain;
        holds("calls make nothing, but were " + made + " bytes", made < 1000);
        before = machine.getThreadAllocatedBytes(id);
        new MoodTown();
        made = machine.getThreadAllocatedBytes(id) - before;
        holds("an object is small, but was " + made + " bytes", made < 20000);
    }

    private static long everyCall(MoodTown x) {
        long sum = x.feed('x') + x.end(0) + x.fault() + x.rule(2) + x.one(0, 0) + x.cell(1) + x.mood(0, 1) + x.put(0, 0);
        sum += x.hold(1, false) + x.goal(0, 3) + x.wall(24, true) + x.pull(1, 4) + x.press(2) + x.force(0, 0) + x.wish(0);
        sum += x.stuck() + x.strain() + x.go(2) + x.ahead(0, 60, 0) + x.rest() + x.again(0) + x.setting(3, 0) + x.out();
        sum += x.calm(0) + x.nurse(0, 1, 2, 0) + x.hang(1, 12, 0) + x.odds(5, 12, 0) + x.see(0, 4) + x.moods(0);
        sum += x.forget(0) + x.crowd(5, 6) + x.keep(0) + x.back(0) + x.sheet(0, 1, 40) + x.lay(0, 1, 1);
        sum += x.read(0, 1, 0, 20) + x.torn() + x.count(5);
        for (int i = 0; i < 9; i++) sum += x.feed("at 0 1; x ".charAt(i));
        return sum + x.text() + x.go(1);
    }
}
