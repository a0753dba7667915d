import java.io.IOException;
import java.lang.management.ManagementFactory;
import java.lang.reflect.Constructor;
import java.lang.reflect.Field;
import java.lang.reflect.Method;
import java.lang.reflect.Modifier;
import java.nio.file.Files;
import java.nio.file.Path;
import java.util.Map;
import java.util.Set;
import java.util.TreeMap;
import java.util.TreeSet;
import java.util.regex.Matcher;
import java.util.regex.Pattern;

/** What of LANGUAGE.md can be seen from outside: the face of the class, and words and calls that its text may not have. */
public final class RulesTest {
    private static final Path SOURCE = Path.of("src/main/java/BunchRace.java");
    private static final String[] FACE = {
        "int rider(int,int,int,int)", "boolean road(int)", "boolean rise(int,int,int)", "int prime(int)",
        "boolean crash(int,int)", "int feed(int,int,int,int,int)", "boolean end(int)", "int fault()",
        "boolean orders(int)", "int choice()", "int race(long)", "int told(int,int)", "int at(int)",
        "int passed(int,int)", "int metres(int,int)", "int groups(int)", "int keep()", "boolean limit(int)",
        "int sum(int,int)", "int team(int)", "int attempt(int,int,int,int,long)", "int best(int,int,long)",
        "int count(int)",
    };
    private static int wrong = 0;

    public static void main(String[] args) throws IOException {
        face();
        insideClasses();
        words(Files.readString(SOURCE));
        room();
        System.out.println(wrong == 0 ? "the rules are kept" : wrong + " rules are broken");
        if (wrong != 0) {
            System.exit(1);
        }
    }

    /** All calls of a run live in one room: what an object has is made with it, and no call makes more. */
    private static void room() {
        if (!(ManagementFactory.getThreadMXBean() instanceof com.sun.management.ThreadMXBean threads)) {
            return;
        }
        everyCall(new BunchRace());
        long before = threads.getCurrentThreadAllocatedBytes();
        BunchRace x = new BunchRace();
        long made = threads.getCurrentThreadAllocatedBytes();
        everyCall(x);
        long after = threads.getCurrentThreadAllocatedBytes();
        must(made - before < 80_000, "rule 12: a new object has " + (made - before) + " bytes");
        must(after - made < 20_000, "rule 12: the calls made " + (after - made) + " bytes");
    }

    private static void everyCall(BunchRace x) {
        for (int i = 0; i < 20; i++) {
            x.rider(i % 5, 40 + i, 100 * i, i);
        }
        x.road(12);
        x.rise(3, 4, 5);
        x.prime(1500);
        x.crash(5000, 50);
        for (int i = 0; i < 9; i++) {
            // The text n>0:6 is fed.
            x.feed(0x6e3e303a, 0x36000000, 0, 0, 0);
            x.end(5);
            x.fault();
            x.orders(i);
            x.choice();
        }
        for (int i = 0; i < 20; i++) {
            x.race(i);
            x.keep();
            x.limit(i);
            x.told(i, 2);
            x.at(i);
            x.passed(0, 1);
            x.metres(i, i);
            x.groups(i);
            x.sum(i, 3);
            x.team(i);
            x.attempt(i, 5000, 0, 1, i);
            x.best(i, 5000, i);
            x.count(i);
        }
    }

    private static void must(boolean holds, String what) {
        if (!holds) {
            wrong++;
            System.out.println(what);
        }
    }

    private static String signature(Method method) {
        StringBuilder text = new StringBuilder();
        text.append(method.getReturnType().getSimpleName()).append(' ').append(method.getName()).append('(');
        for (Class<?> type : method.getParameterTypes()) {
            text.append(text.charAt(text.length() - 1) == '(' ? "" : ",").append(type.getSimpleName());
        }
        return text.append(')').toString();
    }

    private static void face() {
        Set<String> due = new TreeSet<>(Set.of(FACE));
        Set<String> names = new TreeSet<>();
        Set<String> open = new TreeSet<>();
        for (Method method : BunchRace.class.getDeclaredMethods()) {
            if (!Modifier.isPrivate(method.getModifiers())) {
                open.add(signature(method));
                names.add(method.getName());
            }
        }
        must(open.equals(due), "rule 1: the methods are " + open);
        for (Method method : BunchRace.class.getDeclaredMethods()) {
            if (Modifier.isPrivate(method.getModifiers())) {
                must(!names.contains(method.getName()), "rule 1: private " + method.getName());
            }
        }
        Constructor<?>[] made = BunchRace.class.getDeclaredConstructors();
        must(made.length == 1 && Modifier.isPublic(made[0].getModifiers()) && made[0].getParameterCount() == 0,
                "rule 1: the constructor");
        must(Modifier.isFinal(BunchRace.class.getModifiers()), "rule 1: final");
        for (Field field : BunchRace.class.getDeclaredFields()) {
            must(field.getName().equals("NONE") || Modifier.isPrivate(field.getModifiers()), "rule 1: " + field);
        }
    }

    private static void insideClasses() {
        Class<?>[] inside = BunchRace.class.getDeclaredClasses();
        must(inside.length <= 11, "rule 11: " + inside.length + " classes inside");
        limits(BunchRace.class);
        for (Class<?> each : inside) {
            must(Modifier.isStatic(each.getModifiers()) && !Modifier.isPublic(each.getModifiers()), "rule 2: " + each);
            limits(each);
        }
    }

    private static void limits(Class<?> each) {
        int fields = 0;
        for (Field field : each.getDeclaredFields()) {
            if (Modifier.isStatic(field.getModifiers())) {
                must(Modifier.isFinal(field.getModifiers()), "rule 5: " + field);
            } else {
                fields++;
            }
        }
        must(fields <= 20, "rule 11: " + fields + " fields in " + each);
        for (Method method : each.getDeclaredMethods()) {
            must(method.getParameterCount() <= 7, "rule 11: parameters of " + method);
        }
    }

    private static void words(String source) {
        String bare = source.replaceAll("(?s)/\\*.*?\\*/", " ").replaceAll("//[^\n]*", " ")
                .replaceAll("'(\\\\.|[^'])'", "0").replaceAll("\"(\\\\.|[^\"])*\"", "0");
        for (char sign : source.toCharArray()) {
            must(sign < 128, "a sign beyond 127 in the source");
        }
        String[] never = {
            "throw", "throws", "try", "catch", "finally", "synchronized", "assert", "package", "import", "volatile",
            "native", "transient", "protected", "double", "float", "hashCode", "toString", "equals", "Thread", "Random",
            "System", "Object", "goto",
        };
        for (String word : never) {
            must(!Pattern.compile("\\b" + word + "\\b").matcher(bare).find(), "the word " + word);
        }
        must(!bare.contains("->") && !bare.contains("::"), "rule 2: a lambda or a method reference");
        must(!Pattern.compile("\\bstatic\\s*\\{").matcher(bare).find(), "rule 5: a static block");
        Matcher library = Pattern.compile("\\bMath\\.(\\w+)").matcher(bare);
        while (library.find()) {
            must(Set.of("max", "min").contains(library.group(1)), "rule 4: " + library.group());
        }
        longMethods(source);
    }

    private static void longMethods(String source) {
        Map<String, Integer> lengths = new TreeMap<>();
        String now = null;
        int depth = 0;
        int from = 0;
        String[] lines = source.split("\n");
        for (int i = 0; i < lines.length; i++) {
            int indent = lines[i].length() - lines[i].stripLeading().length();
            boolean begins = lines[i].endsWith("{") && lines[i].contains("(") && (indent == 4 || indent == 8);
            if (now == null && begins) {
                now = lines[i].strip();
                depth = indent;
                from = i;
            } else if (now != null && lines[i].startsWith(" ".repeat(depth) + "}")) {
                lengths.put(now, i - from + 1);
                now = null;
            }
        }
        must(lengths.size() > 40, "the methods were not found: " + lengths.size());
        lengths.forEach((name, length) -> must(length <= 60, "rule 11: " + length + " lines in " + name));
    }
}
