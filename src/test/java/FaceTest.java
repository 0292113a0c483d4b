import java.lang.reflect.Constructor;
import java.lang.reflect.Field;
import java.lang.reflect.Method;
import java.lang.reflect.Modifier;
import java.nio.file.Files;
import java.nio.file.Path;
import java.util.Arrays;
import java.util.Set;
import java.util.TreeSet;
import java.util.regex.Matcher;
import java.util.regex.Pattern;

/** The public face is the document's and no more; the source keeps to what LANGUAGE.md forbids by word. */
public final class FaceTest {
    private static int wrong = 0;

    private static void check(String what, boolean isSo) {
        if (!isSo) {
            wrong++;
            System.out.println("face: " + what);
        }
    }

    private static final String[] METHODS = {
        "int sweep()", "int hit(int,int,int,int)", "int stand(int,int,int)", "int part(int)", "int set(int,int)",
        "int way(int,int)", "int fits(int,int,int,int)", "int bars(int,int,int)", "int cell(int)", "long cells(int)",
        "int lead(int,int)", "int wall(int)", "long corners()", "long doors()", "int room(int)", "long rooms(int)",
        "int away(int,int)", "int write(long,int)", "int erase()", "int fault()", "int thing()", "int fit(int)",
        "int keep(int)", "long since(int,int,int)", "int moved(int,int,int)", "int see(int,int)",
        "int next(long,long)", "int join(int,int,int,int)", "int agrees(int)", "int kept()", "int loop(int,boolean)",
        "int unloop()", "int spread(int,int)", "int length(int,int,int)", "int held(int)", "int span(int)",
        "int count(int)"};

    public static void main(String[] args) throws Exception {
        checkMembers();
        checkSource();
        System.out.println(wrong == 0 ? "the face is as told" : wrong + " faults");
        if (wrong != 0) {
            System.exit(1);
        }
    }

    private static String signature(Method method) {
        StringBuilder text = new StringBuilder(method.getReturnType() + " " + method.getName() + "(");
        for (int i = 0; i < method.getParameterTypes().length; i++) {
            text.append(i == 0 ? "" : ",").append(method.getParameterTypes()[i]);
        }
        return text.append(")").toString();
    }

    private static void checkMembers() throws Exception {
        check("final", Modifier.isFinal(RoomsCaught.class.getModifiers()));
        Set<String> due = new TreeSet<>(Arrays.asList(METHODS));
        Set<String> seen = new TreeSet<>();
        Set<String> names = new TreeSet<>();
        for (String method : METHODS) {
            names.add(method.replaceAll("^\\w+ (\\w+)\\(.*$", "$1"));
        }
        for (Method method : RoomsCaught.class.getDeclaredMethods()) {
            if (Modifier.isPrivate(method.getModifiers())) {
                check("private " + method.getName() + " bears a public name", !names.contains(method.getName()));
            } else {
                seen.add(signature(method));
            }
        }
        check("methods " + seen, seen.equals(due));
        for (Constructor<?> made : RoomsCaught.class.getDeclaredConstructors()) {
            check("constructor " + made, made.getParameterCount() == 0 && Modifier.isPublic(made.getModifiers()));
        }
        Set<String> constants = new TreeSet<>();
        for (Field field : RoomsCaught.class.getDeclaredFields()) {
            if (!Modifier.isPrivate(field.getModifiers())) {
                constants.add(field.getName() + " " + field.getInt(null));
            }
        }
        check("constants " + constants, constants.equals(
                new TreeSet<>(Arrays.asList("NONE -1", "UNKNOWN -2", "OUTSIDE -3", "NOT -4", "FULL -5"))));
        for (Class<?> inside : RoomsCaught.class.getDeclaredClasses()) {
            check("static " + inside, Modifier.isStatic(inside.getModifiers()));
            for (Method method : inside.getDeclaredMethods()) {
                check(inside + " has a method " + method.getName(), !names.contains(method.getName()));
            }
        }
    }

    private static void checkSource() throws Exception {
        String source = Files.readString(Path.of("src/main/java/RoomsCaught.java"));
        String bare = source.replaceAll("(?s)/\\*.*?\\*/", " ").replaceAll("//[^\n]*", " ")
                .replaceAll("\"[^\"\n]*\"", "\"\"");
        Matcher forbidden = Pattern.compile("\\b(throw|throws|try|catch|synchronized|assert|import|package|new \\w+\\(\\) *\\{"
                + "|System\\.(?!arraycopy)\\w+|Integer\\.(?!bitCount)\\w+|Long\\.(?!bitCount)\\w+|Math\\.\\w+Exact|double|float)\\b"
                + "|->|::").matcher(bare);
        while (forbidden.find()) {
            check("forbidden: " + forbidden.group(), false);
        }
        for (char sign : source.toCharArray()) {
            check("sign " + (int) sign, sign < 127);
        }
    }
}
