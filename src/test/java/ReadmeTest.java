import java.io.File;
import java.lang.reflect.Method;
import java.lang.reflect.Modifier;
import java.nio.file.Files;
import java.nio.file.Path;
import java.util.ArrayList;
import java.util.List;
import java.util.Set;
import java.util.TreeSet;
import java.util.regex.Matcher;
import java.util.regex.Pattern;

/** What README.md says is so: each call in it answers what stands beside it, and the tests it names are there. */
public final class ReadmeTest {
    private static final String NEW_HALL = "RoomsCaught hall = new RoomsCaught();";
    private static final Pattern CALL = Pattern.compile("hall\\.(\\w+)\\(([^)]*)\\); +// (-?\\w+)(: .*)?");
    private static int wrong = 0;

    private static void check(String what, boolean isSo) {
        if (!isSo) {
            wrong++;
            System.out.println("README.md: " + what);
        }
    }

    public static void main(String[] args) throws Exception {
        List<String> lines = Files.readAllLines(Path.of("README.md"));
        Set<String> shown = new TreeSet<>();
        runExamples(lines, shown);
        for (Method method : RoomsCaught.class.getDeclaredMethods()) {
            if (Modifier.isPublic(method.getModifiers())) {
                check(method.getName() + " is not shown", shown.contains(method.getName()));
            }
        }
        checkNames(String.join("\n", lines));
        System.out.println(wrong == 0 ? "what README.md says is so" : wrong + " faults");
        if (wrong != 0) {
            System.exit(1);
        }
    }

    /** A block of java goes on with the hall of the one ahead, unless it makes a new one. */
    private static void runExamples(List<String> lines, Set<String> shown) throws Exception {
        RoomsCaught hall = null;
        boolean isCode = false;
        for (String line : lines) {
            if (line.startsWith("```")) {
                isCode = line.equals("```java");
            } else if (isCode && line.equals(NEW_HALL)) {
                hall = new RoomsCaught();
            } else if (isCode && !line.isEmpty()) {
                Matcher call = CALL.matcher(line);
                boolean isCall = call.matches() && hall != null;
                check("no call with its answer: " + line, isCall);
                if (isCall) {
                    shown.add(call.group(1));
                    long got = answer(hall, call.group(1), call.group(2));
                    check(line + " answered " + got, got == number(call.group(3)));
                }
            }
        }
    }

    private static long answer(RoomsCaught hall, String name, String told) throws Exception {
        String[] words = told.isEmpty() ? new String[0] : told.split(", ");
        for (Method method : RoomsCaught.class.getMethods()) {
            if (method.getName().equals(name) && method.getParameterCount() == words.length) {
                List<Object> values = new ArrayList<>();
                for (int i = 0; i < words.length; i++) {
                    values.add(value(method.getParameterTypes()[i], words[i]));
                }
                return ((Number) method.invoke(hall, values.toArray())).longValue();
            }
        }
        throw new IllegalArgumentException("the document has no such call: " + name + "(" + told + ")");
    }

    private static Object value(Class<?> type, String word) throws Exception {
        if (type == boolean.class) {
            return Boolean.valueOf(word);
        }
        long v = number(word);
        return type == long.class ? (Object) v : (Object) Math.toIntExact(v);
    }

    private static long number(String word) throws Exception {
        if (word.matches("[A-Z]+")) {
            return RoomsCaught.class.getField(word).getInt(null);
        }
        String digits = word.endsWith("L") ? word.substring(0, word.length() - 1) : word;
        return digits.startsWith("0x") ? Long.parseUnsignedLong(digits.substring(2), 16) : Long.parseLong(digits);
    }

    private static void checkNames(String readme) {
        for (String file : new File("src/test/java").list()) {
            check(file + " is not named", readme.contains("`" + file.replace(".java", "") + "`"));
        }
        Matcher name = Pattern.compile("`(\\w+Test|Checks)`").matcher(readme);
        while (name.find()) {
            check("there is no " + name.group(1), new File("src/test/java", name.group(1) + ".java").isFile());
        }
        Matcher path = Pattern.compile("`((?:src|\\.\\./shared|\\.ci)/[\\w./]+)`").matcher(readme);
        while (path.find()) {
            check("there is no " + path.group(1), new File(path.group(1)).exists());
        }
        check(".ci/run may not be run", new File(".ci/run").canExecute());
    }
}
