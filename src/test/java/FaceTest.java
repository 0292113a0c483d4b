import java.lang.reflect.Constructor;
import java.lang.reflect.Field;
import java.lang.reflect.Method;
import java.lang.reflect.Modifier;
import java.nio.file.Files;
import java.nio.file.Path;
import java.util.Arrays;
import java.util.HashSet;
import java.util.Set;
import java.util.TreeSet;
import java.util.regex.Matcher;
import java.util.regex.Pattern;

/** The public face is the document's and no more; the source keeps to what LANGUAGE.md forbids by word. */
public final class FaceTest {
    private static int wrong = 0;

    private static void check(String what, boolean isSo) {
        if (!isSo) {
            wrong++;
            System.out.println("face: " + what);
        }
    }

    private static final String[] METHODS = {
        "int sweep()", "int hit(int,int,int,int)", "int stand(int,int,int)", "int part(int)", "int set(int,int)",
        "int way(int,int)", "int fits(int,int,int,int)", "int bars(int,int,int)", "int cell(int)", "long cells(int)",
        "int lead(int,int)", "int wall(int)", "long corners()", "long doors()", "int room(int)", "long rooms(int)",
        "int away(int,int)", "int write(long,int)", "int erase()", "int fault()", "int thing()", "int fit(int)",
        "int keep(int)", "long since(int,int,int)", "int moved(int,int,int)", "int see(int,int)",
        "int next(long,long)", "int join(int,int,int,int)", "int agrees(int)", "int kept()", "int loop(int,boolean)",
        "int unloop()", "int spread(int,int)", "int length(int,int,int)", "int held(int)", "int span(int)",
        "int count(int)"};

    public static void main(String[] args) throws Exception {
        checkMembers();
        checkClasses();
        checkSource();
        checkTheChecks();
        System.out.println(wrong == 0 ? "the face is as told" : wrong + " faults");
        if (wrong != 0) {
            System.exit(1);
        }
    }

    private static String signature(Method method) {
        StringBuilder text = new StringBuilder(method.getReturnType() + " " + method.getName() + "(");
        for (int i = 0; i < method.getParameterTypes().length; i++) {
            text.append(i == 0 ? "" : ",").append(method.getParameterTypes()[i]);
        }
        return text.append(")").toString();
    }

    private static void checkMembers() throws Exception {
        check("final", Modifier.isFinal(RoomsCaught.class.getModifiers()));
        Set<String> due = new TreeSet<>(Arrays.asList(METHODS));
        Set<String> seen = new TreeSet<>();
        Set<String> names = new TreeSet<>();
        for (String method : METHODS) {
            names.add(method.replaceAll("^\\w+ (\\w+)\\(.*$", "$1"));
        }
        for (Method method : RoomsCaught.class.getDeclaredMethods()) {
            if (Modifier.isPrivate(method.getModifiers())) {
                check("private " + method.getName() + " bears a public name", !names.contains(method.getName()));
            } else {
                seen.add(signature(method));
            }
        }
        check("methods " + seen, seen.equals(due));
        for (Constructor<?> made : RoomsCaught.class.getDeclaredConstructors()) {
            check("constructor " + made, made.getParameterCount() == 0 && Modifier.isPublic(made.getModifiers()));
        }
        Set<String> constants = new TreeSet<>();
        for (Field field : RoomsCaught.class.getDeclaredFields()) {
            if (!Modifier.isPrivate(field.getModifiers())) {
                constants.add(field.getName() + " " + field.getInt(null));
            }
        }
        check("constants " + constants, constants.equals(
                new TreeSet<>(Arrays.asList("NONE -1", "UNKNOWN -2", "OUTSIDE -3", "NOT -4", "FULL -5"))));
        for (Class<?> inside : RoomsCaught.class.getDeclaredClasses()) {
            check("static " + inside, Modifier.isStatic(inside.getModifiers()));
            for (Method method : inside.getDeclaredMethods()) {
                check(inside + " has a method " + method.getName(), !names.contains(method.getName()));
            }
        }
    }

    private static final Set<String> FIELD_TYPES = Set.of("int", "long", "short", "byte", "char", "boolean", "int[]", "long[]",
            "short[]", "byte[]", "char[]", "boolean[]", "int[][]", "long[][]", "short[][]", "byte[][]", "char[][]", "String");
    private static final Set<String> CONSTANT_TYPES =
            Set.of("int", "long", "boolean", "char", "String", "int[]", "long[]", "char[]", "byte[]");
    private static final int MOST_FIELDS = 20, MOST_CLASSES = 12, MOST_PARAMETERS = 7, MOST_LINES = 60;

    /** Rules 2, 3, 5 and 11 as far as the compiled classes show them. */
    private static void checkClasses() throws Exception {
        int classes = 0;
        for (Class<?> one : allClasses()) {
            classes++;
            check(one + " is anonymous or local", !one.isAnonymousClass() && !one.isLocalClass());
            check(one + " is not static", one == RoomsCaught.class || Modifier.isStatic(one.getModifiers()));
            int fields = 0;
            for (Field field : one.getDeclaredFields()) {
                String type = field.getType().getSimpleName();
                if (Modifier.isStatic(field.getModifiers())) {
                    check(field + " is no constant", Modifier.isFinal(field.getModifiers()) && CONSTANT_TYPES.contains(type));
                } else {
                    fields++;
                    check(field + " is of no type of ours", FIELD_TYPES.contains(type) || isOwn(field.getType()));
                }
            }
            check(one + " has " + fields + " fields", fields <= MOST_FIELDS);
            for (Method method : one.getDeclaredMethods()) {
                check(method + " takes too much", method.getParameterCount() <= MOST_PARAMETERS);
                check(method + " is of the compiler's making", !method.isSynthetic());
            }
        }
        check(classes + " classes", classes <= MOST_CLASSES);
    }

    private static boolean isOwn(Class<?> type) {
        return (type.isArray() ? type.getComponentType() : type).getName().startsWith("RoomsCaught");
    }

    /** As the compiler wrote them, so that classes without a name are among them. */
    private static Set<Class<?>> allClasses() throws Exception {
        Path place = Path.of(RoomsCaught.class.getProtectionDomain().getCodeSource().getLocation().toURI());
        Set<Class<?>> classes = new HashSet<>();
        for (String file : place.toFile().list()) {
            if (file.matches("RoomsCaught(\\$.*)?\\.class")) {
                classes.add(Class.forName(file.replace(".class", "")));
            }
        }
        return classes;
    }

    /** The words that LANGUAGE.md forbids, with the rule that forbids each. */
    private static final String[][] FORBIDDEN = {
        {"rule 2", "new\\s+\\w+\\s*\\([^;{]*\\)\\s*\\{"}, {"rule 2", "->|::"},
        {"rule 4", "\\b(import|package)\\b"}, {"rule 4", "\\bSystem\\.(?!arraycopy\\b)"}, {"rule 4", "\\bjava\\."},
        {"rule 4", "\\b\\w+Exact\\b"}, {"rule 4", "\\b(Integer|Long)\\.(?!bitCount\\b)"},
        {"rule 4", "\\bMath\\.(?!(abs|max|min)\\b)"},
        {"rule 5", "\\bstatic\\s*\\{"}, {"rule 6", "\\b(throw|throws|try|catch|synchronized|assert)\\b"},
        {"rule 6", "\\b(hashCode|toString)\\b"}, {"rule 10", "\"\\s*\\+|\\+\\s*\""}, {"rule 3", "\\b(double|float)\\b"}};

    private static void checkSource() throws Exception {
        String source = Files.readString(Path.of("src/main/java/RoomsCaught.java"));
        String bare = bareOf(source);
        for (String[] rule : FORBIDDEN) {
            Matcher forbidden = Pattern.compile(rule[1]).matcher(bare);
            while (forbidden.find()) {
                check(rule[0] + " forbids: " + forbidden.group(), false);
            }
        }
        for (char sign : source.toCharArray()) {
            check("sign " + (int) sign, sign < 127);
        }
        checkLengths(bare);
    }

    private static String bareOf(String source) {
        return source.replaceAll("(?s)/\\*.*?\\*/", " ").replaceAll("//[^\n]*", " ").replaceAll("\"[^\"\n]*\"", "\"\"");
    }

    /** Rule 11: a method begins with a line that ends in ") {" and ends where its own brace stands again. */
    private static void checkLengths(String bare) {
        String[] lines = bare.split("\n", -1);
        for (int from = 0; from < lines.length; from++) {
            if (!lines[from].matches(" {4}(?: {4})?\\w.*\\) \\{") || lines[from].matches(" *(if|for|while|switch|else)\\b.*")) {
                continue;
            }
            String end = lines[from].replaceAll("\\S.*", "") + "}";
            int to = from;
            while (to < lines.length && !lines[to].equals(end)) {
                to++;
            }
            check("rule 11: " + (to - from + 1) + " lines:" + lines[from], to - from + 1 <= MOST_LINES);
        }
    }

    /** A check that finds nothing in what is wrong would be none. */
    private static void checkTheChecks() {
        String[] odd = {"x = new Object() {\n", "x = new Sweep(1, 2) {", "run(() -> 1)", "Sweep::new", "import java.util.List;",
            "System.out.println(1);", "System.nanoTime()", "Math.addExact(1, 2)", "Math.sqrt(2)", "Integer.valueOf(1)",
            "static {\n", "throw x;", "try {", "} catch (E e) {", "x.hashCode()", "\"\" + 1", "1 + \"\"", "double d;"};
        for (String text : odd) {
            boolean isFound = false;
            for (String[] rule : FORBIDDEN) {
                isFound |= Pattern.compile(rule[1]).matcher(text).find();
            }
            check("nothing forbids: " + text, isFound);
        }
    }
}
