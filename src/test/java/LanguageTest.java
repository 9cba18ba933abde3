import java.io.IOException;
import java.lang.reflect.Constructor;
import java.lang.reflect.Field;
import java.lang.reflect.Method;
import java.lang.reflect.Modifier;
import java.nio.file.Files;
import java.nio.file.Path;
import java.util.Arrays;
import java.util.Map;
import java.util.Set;
import java.util.TreeMap;
import java.util.TreeSet;
import java.util.regex.Matcher;
import java.util.regex.Pattern;

/** What of LANGUAGE.md can be looked at from outside: the face, the classes inside, words that may not stand. */
public final class LanguageTest {
    private static final Check CHECK = new Check("LanguageTest");
    private static final Path SOURCE = Path.of("src/main/java/BetsOnBets.java");
    private static final int MOST_CLASSES = 12;
    private static final int MOST_FIELDS = 20;
    private static final int MOST_LINES = 60;
    private static final int MOST_CALLS_DEEP = 8;
    private static final Set<String> LIBRARY = Set.of("Math.max", "Math.min", "Math.abs", "Integer.bitCount",
            "Integer.compare", "Math.floorMod", "Math.floorDiv");
    private static final Set<Class<?>> STATIC_TYPES = Set.of(int.class, long.class, boolean.class, char.class,
            String.class, int[].class, long[].class, char[].class, byte[].class);
    private static final String[] FACE = {
        "letter(int)", "inn()", "chance(int)", "bet(int,int)", "set(int,int,int)", "fund(int,int)", "ways(int,int)",
        "standing(int,int)", "purse(int,int)", "mean(int)", "worst(int,int)", "best(int,int)", "sure(int)",
        "likely(int)", "voids()", "sparing(int)", "safeOdds(int)", "host()", "settling(int)", "cannotPay(int)",
        "rings()", "row(int)", "fitting(int)", "judge(int)", "seeds(int,int,int)", "image()", "on()", "count(int)"
    };
    private static final String[] FORBIDDEN = {
        "\\b(throw|throws|try|catch|finally|synchronized|assert|import|package|native|volatile)\\b", "->", "::", "@",
        "\\b(Thread|System|Random|Object|Class|Exception|Error|Throwable)\\b", "\\b\\w+Exact\\b",
        "\\b(equals|hashCode|toString)\\b", "\\bstatic\\s*\\{", "\"\\s*\\+|\\+\\s*\"", "[^\\n -~]", "\\b(double|float)\\b",
        "\\bprotected\\b", "\\binstanceof\\b", "\\byield\\b", "\\bvar\\b", "\\bgoto\\b",
        "\\bnew\\s+\\w+\\([^)]*\\)\\s*\\{", "\\b(while|for)\\s*\\(\\s*(true\\b|;)", "\\bfor\\s*\\([^;]*;\\s*;", "\\]\\s*\\["
    };

    public static void main(String[] args) throws IOException {
        String code = Files.readString(SOURCE).replaceAll("(?s)/\\*.*?\\*/", "").replaceAll("//.*", "");
        face();
        classesInside();
        forbidden(code);
        lengths(code);
        library(code);
        madeInConstructors(code);
        depth(code);
        CHECK.end();
    }

    private static String signature(Method method) {
        StringBuilder text = new StringBuilder(method.getName()).append('(');
        String between = "";
        for (Class<?> type : method.getParameterTypes()) {
            text.append(between).append(type.getName());
            between = ",";
        }
        return text.append(')').toString();
    }

    private static void face() {
        Set<String> want = new TreeSet<>(Arrays.asList(FACE));
        Set<String> got = new TreeSet<>();
        for (Method method : BetsOnBets.class.getDeclaredMethods()) {
            int modifiers = method.getModifiers();
            if (!Modifier.isPrivate(modifiers)) {
                got.add(signature(method));
                CHECK.holds(method + " is not as the face has it", Modifier.isPublic(modifiers)
                        && !Modifier.isStatic(modifiers) && method.getReturnType() == int.class);
            }
        }
        CHECK.holds("the face is " + got + ", due is " + want, got.equals(want));
        Constructor<?>[] constructors = BetsOnBets.class.getDeclaredConstructors();
        CHECK.holds("one public constructor", constructors.length == 1
                && Modifier.isPublic(constructors[0].getModifiers()) && constructors[0].getParameterCount() == 0);
        CHECK.holds("public and final", (BetsOnBets.class.getModifiers() & (Modifier.PUBLIC | Modifier.FINAL))
                == (Modifier.PUBLIC | Modifier.FINAL));
    }

    private static void classesInside() {
        Class<?>[] inside = BetsOnBets.class.getDeclaredClasses();
        CHECK.holds("too many classes", inside.length + 1 <= MOST_CLASSES);
        members(BetsOnBets.class);
        for (Class<?> type : inside) {
            int modifiers = type.getModifiers();
            CHECK.holds(type + " is not static, or seen from outside", Modifier.isStatic(modifiers)
                    && !Modifier.isPublic(modifiers) && !Modifier.isProtected(modifiers));
            members(type);
        }
    }

    private static void members(Class<?> type) {
        int ownFields = 0;
        for (Field field : type.getDeclaredFields()) {
            int modifiers = field.getModifiers();
            ownFields += Modifier.isStatic(modifiers) ? 0 : 1;
            CHECK.holds(field + " is static and not final", !Modifier.isStatic(modifiers) || Modifier.isFinal(modifiers));
            CHECK.holds(field + " is static and no constant",
                    !Modifier.isStatic(modifiers) || STATIC_TYPES.contains(field.getType()));
            CHECK.holds(field + " is seen from outside", Modifier.isPrivate(modifiers));
        }
        CHECK.holds(type + " has too many fields", ownFields <= MOST_FIELDS);
        for (Method method : type.getDeclaredMethods()) {
            boolean bearsPublicName = Arrays.stream(FACE).anyMatch(call -> call.startsWith(method.getName() + "("));
            CHECK.holds(method + " bears the name of a public one",
                    !bearsPublicName || Modifier.isPublic(method.getModifiers()));
            CHECK.holds(method + " has too many parameters", method.getParameterCount() <= 7);
        }
    }

    private static void forbidden(String code) {
        for (String words : FORBIDDEN) {
            Matcher found = Pattern.compile(words).matcher(code);
            CHECK.holds("the program has " + words, !found.find());
        }
    }

    /** Methods of the class end with a brace four signs in, those of the classes inside eight signs in. */
    private static void lengths(String code) {
        Matcher method = Pattern.compile("(?m)^( {4}| {8})[a-z][^;={}]*\\) \\{\\n((?:.*\\n)*?)\\1\\}").matcher(code);
        int methods = 0;
        while (method.find()) {
            methods++;
            CHECK.holds("too long: " + method.group().lines().findFirst(), method.group().lines().count() <= MOST_LINES);
        }
        CHECK.holds("methods found: " + methods, methods > FACE.length);
    }

    private static void library(String code) {
        Matcher call = Pattern.compile("\\b([A-Z][a-z]\\w*\\.[a-z]\\w*)\\(").matcher(code);
        while (call.find()) {
            CHECK.holds(call.group(1) + " is not in the library", LIBRARY.contains(call.group(1)));
        }
    }

    /** No method makes anything, so that a run of calls takes no more of the room than its objects do. */
    private static void madeInConstructors(String code) {
        bodies(code).forEach((name, body) -> CHECK.holds(name + " makes an object or an array",
                Character.isUpperCase(name.charAt(0)) || !Pattern.compile("\\bnew\\b").matcher(body).find()));
    }

    /** By names alone: methods of one name are taken together, which can only make a chain of calls longer. */
    private static void depth(String code) {
        Map<String, String> bodies = bodies(code);
        for (String name : bodies.keySet()) {
            int depth = depthOf(name, bodies, 1);
            CHECK.holds(name + " goes " + depth + " calls deep, or calls itself", depth <= MOST_CALLS_DEEP);
        }
    }

    private static int depthOf(String name, Map<String, String> bodies, int depth) {
        int deepest = depth;
        if (depth <= MOST_CALLS_DEEP) {
            Matcher call = Pattern.compile("\\b([a-z]\\w*)\\(").matcher(bodies.get(name));
            while (call.find()) {
                if (bodies.containsKey(call.group(1))) {
                    deepest = Math.max(deepest, depthOf(call.group(1), bodies, depth + 1));
                }
            }
        }
        return deepest;
    }

    private static Map<String, String> bodies(String code) {
        Map<String, String> bodies = new TreeMap<>();
        Matcher method = Pattern.compile("(?m)^( {4}| {8})(?:[a-z][^;={}(]* )?(\\w+)\\([^)]*\\) \\{\\n((?:.*\\n)*?)\\1\\}")
                .matcher(code);
        while (method.find()) {
            bodies.merge(method.group(2), method.group(3), String::concat);
        }
        CHECK.holds("methods found: " + bodies.size(), bodies.size() > FACE.length);
        return bodies;
    }
}
