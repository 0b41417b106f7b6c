import java.io.IOException;
import java.lang.management.ManagementFactory;
import java.lang.reflect.Constructor;
import java.lang.reflect.Field;
import java.lang.reflect.Method;
import java.lang.reflect.Modifier;
import java.nio.charset.StandardCharsets;
import java.nio.file.Files;
import java.nio.file.Path;
import java.util.ArrayList;
import java.util.List;
import java.util.Map;
import java.util.Set;
import java.util.TreeMap;
import java.util.TreeSet;
import java.util.regex.Matcher;
import java.util.regex.Pattern;

/** The face of the class, and what a simple look at it can tell of the rules of ../shared/LANGUAGE.md. */
public final class FaceTests {
    private static final Path SOURCE = Path.of("src", "main", "java", "RopeThreads.java");
    private static final String[] FACE = {
        "int hang(int) IllegalArgumentException IllegalStateException",
        "int cut(int) IndexOutOfBoundsException",
        "int swap(int,int) IndexOutOfBoundsException IllegalArgumentException",
        "int inspect(int,int,int) IndexOutOfBoundsException IllegalArgumentException",
        "int set(int,int) IndexOutOfBoundsException IllegalArgumentException",
        "int trip(int,int,int) IndexOutOfBoundsException IllegalArgumentException IllegalStateException",
        "int pass(int) IllegalArgumentException IllegalStateException",
        "int append(int) IllegalArgumentException IllegalStateException",
        "int clearBuffer()",
        "int firstError()",
        "int run() IllegalArgumentException IllegalStateException",
        "int undo() IllegalStateException",
        "int rope(int,int) IndexOutOfBoundsException IllegalArgumentException",
        "int section(int,int,int) IndexOutOfBoundsException IllegalArgumentException",
        "int window(int,int,int) IndexOutOfBoundsException IllegalArgumentException",
        "int count(int) IllegalArgumentException",
        "int setting(int) IndexOutOfBoundsException",
        "int ifInspected(int,int,int) IndexOutOfBoundsException IllegalArgumentException",
        "int bestInspection(int,int) IndexOutOfBoundsException IllegalArgumentException",
        "int tripsLeft(int) IndexOutOfBoundsException",
        "int unseen()",
        "double countedShare()",
        "long digest()"
    };
    private static final int ROOM_OF_A_RUN = 1_000_000;
    private static final int MOST_DEPTH = 8;

    private static int wrong = 0;

    public static void main(String[] args) throws IOException {
        face();
        insides();
        words();
        lengths();
        depths();
        room();
        System.out.println(wrong == 0 ? "the face is as due" : wrong + " faults of the face");
        if (wrong != 0) {
            System.exit(1);
        }
    }

    private static void require(boolean good, String fault) {
        if (!good) {
            wrong++;
            System.out.println(fault);
        }
    }

    private static List<Class<?>> classes() {
        List<Class<?>> all = new ArrayList<>();
        all.add(RopeThreads.class);
        for (Class<?> inside : RopeThreads.class.getDeclaredClasses()) {
            all.add(inside);
        }
        return all;
    }

    private static void face() {
        int kind = RopeThreads.class.getModifiers();
        require(Modifier.isPublic(kind) && Modifier.isFinal(kind), "the class is public and final");
        Constructor<?>[] constructors = RopeThreads.class.getDeclaredConstructors();
        require(constructors.length == 1 && Modifier.isPublic(constructors[0].getModifiers())
            && constructors[0].getParameterCount() == 0, "one public constructor");
        Set<String> got = new TreeSet<>();
        for (Method method : RopeThreads.class.getDeclaredMethods()) {
            if (Modifier.isPublic(method.getModifiers())) {
                require(!Modifier.isStatic(method.getModifiers()), method + " is static");
                got.add(signature(method));
            } else {
                require(Modifier.isPrivate(method.getModifiers()), method + " is not private");
            }
        }
        Set<String> want = new TreeSet<>(List.of(FACE));
        require(got.equals(want), "the public methods are " + got + ", due are " + want);
        for (Field field : RopeThreads.class.getDeclaredFields()) {
            boolean shown = field.getName().equals("NONE");
            int of = field.getModifiers();
            require(shown ? Modifier.isPublic(of) && Modifier.isFinal(of) && Modifier.isStatic(of)
                : Modifier.isPrivate(of), field + " is not as the face has it");
        }
    }

    private static String signature(Method method) {
        StringBuilder text = new StringBuilder(method.getReturnType() + " " + method.getName() + "(");
        for (int i = 0; i < method.getParameterCount(); i++) {
            text.append(i == 0 ? "" : ",").append(method.getParameterTypes()[i]);
        }
        text.append(")");
        for (Class<?> thrown : method.getExceptionTypes()) {
            text.append(" ").append(thrown.getSimpleName());
        }
        return text.toString();
    }

    private static void insides() {
        Set<String> shown = new TreeSet<>();
        for (String line : FACE) {
            shown.add(line.substring(line.indexOf(' ') + 1, line.indexOf('(')));
        }
        require(classes().size() <= 12, "too many classes");
        for (Class<?> one : classes()) {
            if (one != RopeThreads.class) {
                int kind = one.getModifiers();
                require(Modifier.isStatic(kind) && !Modifier.isPublic(kind) && !Modifier.isProtected(kind),
                    one + " is not static and hidden");
            }
            for (Method method : one.getDeclaredMethods()) {
                require(one == RopeThreads.class && Modifier.isPublic(method.getModifiers())
                    || !shown.contains(method.getName()), method + " bears the name of a public one");
                require(method.getParameterCount() <= 7, method + " takes too many parameters");
            }
            int fields = 0;
            for (Field field : one.getDeclaredFields()) {
                if (Modifier.isStatic(field.getModifiers())) {
                    require(Modifier.isFinal(field.getModifiers()), field + " is static but not final");
                } else {
                    fields++;
                }
            }
            require(fields <= 20, one + " has too many fields");
        }
    }

    private static void words() throws IOException {
        String source = Files.readString(SOURCE, StandardCharsets.UTF_8);
        require(source.chars().allMatch(sign -> sign == '\n' || sign >= ' ' && sign < 127), "a sign is not plain");
        for (String word : new String[] {"\\btry\\b", "\\bcatch\\b", "\\bfinally\\b", "\\bsynchronized\\b",
            "\\bassert\\b", "->", "::", "Exact\\(", "\\bDouble\\b", "\\bFloat\\b", "\\bnanoTime\\b", "\\bRandom\\b",
            "\\bwhile \\(true\\)", "for \\(;;\\)", "static \\{", "\\bpackage\\b", "\" \\+", "\\+ \"",
            "\\bInteger\\.[A-Z]", "\\bLong\\.[A-Z]", "\\bObject\\b", "\\bhashCode\\b", "\\btoString\\b"}) {
            Matcher found = Pattern.compile(word).matcher(withoutComments(source));
            require(!found.find(), "the source has " + word);
        }
        Matcher imports = Pattern.compile("import ([^;]*);").matcher(source);
        while (imports.find()) {
            require(imports.group(1).equals("java.util.Arrays"), "the source imports " + imports.group(1));
        }
    }

    private static String withoutComments(String source) {
        return source.replaceAll("(?s)/\\*.*?\\*/", "").replaceAll("//[^\n]*", "");
    }

    private static void lengths() throws IOException {
        List<String> lines = Files.readAllLines(SOURCE);
        for (int from = 0; from < lines.size(); from++) {
            Matcher head = Pattern.compile("( +)[a-zA-Z\\[\\] ]+\\(.*").matcher(lines.get(from));
            String indent = head.matches() ? head.group(1) : "";
            if (indent.length() == 4 || indent.length() == 8) {
                int to = from;
                while (to < lines.size() - 1 && !lines.get(to).equals(indent + "}")) {
                    to++;
                }
                boolean statement = lines.get(from).endsWith(";");
                require(statement || to - from < 60, "a method of over 60 lines begins in line " + (from + 1));
            }
        }
    }

    /** How deep the calls go, by the names alone; those of the library count as one. */
    private static void depths() throws IOException {
        String source = withoutComments(Files.readString(SOURCE)).replaceAll("\"[^\"]*\"", "");
        Map<String, Set<String>> calls = new TreeMap<>();
        String head = "^( {4}| {8})(?! )[a-zA-Z\\[\\] ]+ (\\w+)\\([^()]*\\)[^(){};]*";
        Matcher method = Pattern.compile("(?ms)" + head + "\\{(.*?)^\\1\\}").matcher(source);
        while (method.find()) {
            Set<String> called = calls.computeIfAbsent(method.group(2), name -> new TreeSet<>());
            Matcher call = Pattern.compile("(\\w+)\\(").matcher(method.group(3));
            while (call.find()) {
                if (!Set.of("if", "for", "while", "switch").contains(call.group(1))) {
                    called.add(call.group(1));
                }
            }
        }
        for (String line : FACE) {
            String name = line.substring(line.indexOf(' ') + 1, line.indexOf('('));
            require(calls.containsKey(name), "no body of " + name + " is found");
            require(depth(name, calls, 0) <= MOST_DEPTH, name + " goes deeper than eight calls");
        }
    }

    /** A method that calls one of its own name calls that of another class: FaceTests sees the names alone. */
    private static int depth(String name, Map<String, Set<String>> calls, int above) {
        int deepest = 0;
        for (String called : calls.getOrDefault(name, Set.of())) {
            if (called.equals(name)) {
                deepest = Math.max(deepest, 1);
            } else if (above < 2 * MOST_DEPTH) {
                deepest = Math.max(deepest, depth(called, calls, above + 1));
            }
        }
        return 1 + deepest;
    }

    /** The dearest calls make next to nothing: all calls of a run live in one room. */
    private static void room() {
        com.sun.management.ThreadMXBean threads =
            (com.sun.management.ThreadMXBean) ManagementFactory.getThreadMXBean();
        aRun();
        long before = threads.getCurrentThreadAllocatedBytes();
        aRun();
        long made = threads.getCurrentThreadAllocatedBytes() - before;
        require(made < ROOM_OF_A_RUN, "a run of calls made " + made + " bytes");
    }

    private static void aRun() {
        RopeThreads x = new RopeThreads();
        for (int i = 0; i < 5; i++) {
            x.hang(90 + i);
        }
        long seen = 0;
        for (int i = 0; i < 120; i++) {
            x.trip(i % 8, i % 3, 1);
            seen += x.inspect(i % 5, 0, 23);
            seen += x.digest();
            seen += x.undo();
        }
        require(seen != 0, "a run adds up to nothing");
    }
}
