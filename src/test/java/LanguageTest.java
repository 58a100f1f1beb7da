import java.io.IOException;
import java.lang.reflect.Field;
import java.lang.reflect.Method;
import java.lang.reflect.Modifier;
import java.nio.charset.StandardCharsets;
import java.nio.file.Files;
import java.nio.file.Path;
import java.util.HashSet;
import java.util.Map;
import java.util.Set;
import java.util.TreeMap;
import java.util.TreeSet;
import java.util.regex.Matcher;
import java.util.regex.Pattern;

/** The document's public face, and the rules of LANGUAGE.md that can be seen in the source. */
public final class LanguageTest {
    private static final String SOURCE = "src/main/java/RegaliaVotes.java";
    private static final String FACE = "int type(int) int clear() int council() int thing(int,int) "
            + "int officer(int,int) int bill(int,int) int now(int) int puts(int) int hands(int,int) "
            + "int washes(int) int hangs(int) int warms(int) int sickens(int,int) int undo() "
            + "int power(int,int) int least(int) int dummies() int sways(int) int free() int turn(int) "
            + "int hand(int) int swaps(int) int record(int,int) int forget() int isFor(int,int) int who() "
            + "int odds(int,int,int) int rate(int,int) int keep(int) int back(int) int count(int) long trace()";
    private static final String[] FORBIDDEN = {"throw", "throws", "try", "catch", "finally", "synchronized",
        "assert", "native", "volatile", "transient", "Object", "Exact", "Thread", "Random", "toString",
        "hashCode", "yield", "var", "this\\.getClass"};

    public static void main(String[] args) throws IOException {
        face();
        constants();
        String code = withoutComments(Files.readString(Path.of(SOURCE), StandardCharsets.US_ASCII));
        words(code);
        library(code);
        nestedClasses();
        Map<String, String> bodies = bodies(code);
        methods(bodies);
        depth(bodies);
        objectsMade(bodies);
        Checks.end("LanguageTest");
    }

    // Rule 1
    private static void face() {
        Class<?> type = RegaliaVotes.class;
        Set<String> visible = new TreeSet<>();
        Set<String> names = new HashSet<>();
        for (Method method : type.getDeclaredMethods()) {
            if (!Modifier.isPrivate(method.getModifiers())) {
                visible.add(signature(method));
                names.add(method.getName());
                Checks.holds(method + " is public", Modifier.isPublic(method.getModifiers()));
                Checks.holds(method + " is of the object", !Modifier.isStatic(method.getModifiers()));
            }
        }
        Set<String> due = new TreeSet<>();
        Matcher calls = Pattern.compile("(int|long) \\w+\\([a-z,]*\\)").matcher(FACE);
        while (calls.find()) {
            due.add(calls.group());
        }
        Checks.holds("the methods are " + due + ", they were " + visible, due.equals(visible));
        Checks.due("how many methods", visible.size(), 32);
        for (Class<?> inside : type.getDeclaredClasses()) {
            for (Method method : inside.getDeclaredMethods()) {
                Checks.holds(method + " has a name of its own", !names.contains(method.getName()));
            }
        }
        for (Method method : type.getDeclaredMethods()) {
            boolean isShared = Modifier.isPrivate(method.getModifiers()) && names.contains(method.getName());
            Checks.holds(method + " has a name of its own", !isShared);
        }
        Checks.holds("public and final", Modifier.isPublic(type.getModifiers()) && Modifier.isFinal(type.getModifiers()));
        Checks.due("constructors", type.getDeclaredConstructors().length, 1);
        Checks.due("public constructors", type.getConstructors().length, 1);
    }

    private static String signature(Method method) {
        StringBuilder text = new StringBuilder(method.getReturnType().getName() + " " + method.getName() + "(");
        for (int i = 0; i < method.getParameterCount(); i++) {
            text.append(i == 0 ? "" : ",").append(method.getParameterTypes()[i].getName());
        }
        return text.append(")").toString();
    }

    private static void constants() {
        Checks.due("BAD", RegaliaVotes.BAD, -1);
        Checks.due("STATE", RegaliaVotes.STATE, -2);
        Checks.due("FULL", RegaliaVotes.FULL, -3);
        Checks.due("NONE", RegaliaVotes.NONE, -9);
        Checks.due("NO", RegaliaVotes.NO, -1000000);
        Set<String> visible = new TreeSet<>();
        for (Field field : RegaliaVotes.class.getDeclaredFields()) {
            if (!Modifier.isPrivate(field.getModifiers())) {
                visible.add(field.getName());
            }
        }
        Checks.holds("the constants alone are visible", visible.equals(Set.of("BAD", "STATE", "FULL", "NONE", "NO")));
    }

    private static String withoutComments(String source) {
        return source.replaceAll("(?s)/\\*.*?\\*/", "").replaceAll("//[^\n]*", "");
    }

    // Rules 3, 4, 6, 9, 13
    private static void words(String code) {
        for (String word : FORBIDDEN) {
            Checks.holds("no " + word, !Pattern.compile("\\b" + word + "\\b").matcher(code).find());
        }
        Checks.holds("no lambda", !code.contains("->"));
        Checks.holds("no method reference", !code.contains("::"));
        Checks.holds("no package", !Pattern.compile("^package", Pattern.MULTILINE).matcher(code).find());
        Checks.holds("no endless loop", !Pattern.compile("while \\(true|for \\(;;").matcher(code).find());
        Matcher imports = Pattern.compile("import ([^;]*);").matcher(code);
        while (imports.find()) {
            Checks.holds("import " + imports.group(1), imports.group(1).matches("java\\.util\\.(Arrays|ArrayList|List|Iterator)"));
        }
    }

    // Rules 2, 5, 11
    private static void nestedClasses() {
        Class<?>[] inside = RegaliaVotes.class.getDeclaredClasses();
        Checks.holds("twelve classes at most", inside.length < 12);
        for (Class<?> type : inside) {
            Checks.holds(type + " is static", Modifier.isStatic(type.getModifiers()));
            fields(type);
        }
        fields(RegaliaVotes.class);
    }

    private static void fields(Class<?> type) {
        int ofObject = 0;
        for (Field field : type.getDeclaredFields()) {
            if (Modifier.isStatic(field.getModifiers())) {
                Checks.holds(field + " is final", Modifier.isFinal(field.getModifiers()));
            } else {
                ofObject++;
            }
        }
        Checks.holds(type + " has twenty fields at most", ofObject <= 20);
    }

    // Rule 4: what is asked of a class that is not of this file
    private static void library(String code) {
        Set<String> own = new HashSet<>();
        for (Class<?> type : RegaliaVotes.class.getDeclaredClasses()) {
            own.add(type.getSimpleName());
        }
        Matcher asked = Pattern.compile("\\b([A-Z]\\w*)\\.(\\w+)\\(").matcher(code);
        int found = 0;
        while (asked.find()) {
            found++;
            boolean isAllowed = own.contains(asked.group(1)) || (asked.group(1) + "." + asked.group(2))
                    .matches("System\\.arraycopy|Arrays\\.(copyOf|copyOfRange|fill)|(Math|Integer|Long)\\.\\w+(?<!Exact)");
            Checks.holds(asked.group() + " stands in rule 4", isAllowed);
        }
        Checks.holds("calls of the library were found", found > 10);
    }

    /** Every method and constructor by its name, with the bodies of all that bear it. */
    private static Map<String, String> bodies(String code) {
        Map<String, String> bodies = new TreeMap<>();
        Matcher heads = Pattern.compile("(?m)^( +)(?:[\\w\\[\\]]+ )*(\\w+)\\([^()]*\\) \\{$").matcher(code);
        while (heads.find()) {
            if (!heads.group(2).matches("if|for|while|switch")) {
                int end = code.indexOf("\n" + heads.group(1) + "}", heads.end());
                bodies.merge(heads.group(2), code.substring(heads.end(), end), (one, other) -> one + "\n" + other);
            }
        }
        Checks.holds("methods were found", bodies.size() > 90);
        for (Method method : RegaliaVotes.class.getDeclaredMethods()) {
            Checks.holds("the body of " + method.getName() + "() was found", bodies.containsKey(method.getName()));
        }
        return bodies;
    }

    // Rule 11: methods of some sixty lines, seven parameters at most
    private static void methods(Map<String, String> bodies) {
        for (Map.Entry<String, String> method : bodies.entrySet()) {
            Checks.holds(method.getKey() + "() has sixty lines at most", method.getValue().lines().count() <= 60);
        }
        for (Class<?> type : RegaliaVotes.class.getDeclaredClasses()) {
            for (Method method : type.getDeclaredMethods()) {
                Checks.holds(method + " has seven parameters at most", method.getParameterCount() <= 7);
            }
        }
    }

    // Rules 8, 11: no recursion, and calls go at most eight deep
    private static void depth(Map<String, String> bodies) {
        for (Method method : RegaliaVotes.class.getDeclaredMethods()) {
            int depth = depthOf(method.getName(), bodies, 0);
            Checks.holds(method.getName() + "() goes " + depth + " deep, at most eight are due", depth <= 8);
        }
    }

    private static int depthOf(String name, Map<String, String> bodies, int callers) {
        // A method that calls itself, or is called by what it calls, would go beyond any depth.
        if (callers > 20) {
            return 1;
        }
        int deepest = 0;
        Matcher calls = Pattern.compile("\\b(\\w+)\\(").matcher(bodies.get(name));
        Set<String> called = new HashSet<>();
        while (calls.find()) {
            if (bodies.containsKey(calls.group(1)) && called.add(calls.group(1))) {
                deepest = Math.max(deepest, depthOf(calls.group(1), bodies, callers + 1));
            }
        }
        return deepest + 1;
    }

    // Rule 12: objects and arrays are made where an object is made, by no call
    private static void objectsMade(Map<String, String> bodies) {
        for (Map.Entry<String, String> method : bodies.entrySet()) {
            boolean isConstructor = Character.isUpperCase(method.getKey().charAt(0));
            Checks.holds(method.getKey() + "() makes no object", isConstructor || !method.getValue().contains("new "));
        }
    }
}
