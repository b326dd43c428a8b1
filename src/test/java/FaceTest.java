import java.io.IOException;
import java.lang.reflect.Constructor;
import java.lang.reflect.Field;
import java.lang.reflect.Method;
import java.lang.reflect.Modifier;
import java.nio.file.Files;
import java.nio.file.Path;
import java.util.Set;
import java.util.TreeSet;

/** The public face, and some rules of LANGUAGE.md that can be told from the file. */
public final class FaceTest {
    private static final Set<String> METHODS = Set.of("int set(int,int)", "int touch(int,int,int)",
            "int turn(int)", "int discharge()", "int wipeDisc(int)", "int run()", "int sector(int,int)",
            "int disc(int,int)", "int jar(int,int)", "int spark(int,int)", "int count(int)",
            "int untilSpark()", "int ifTurned(int,int)", "int widestGap()", "int mostDamp()",
            "int put(long)", "int wipe()", "int fault()", "int undo()", "int save(int)", "int restore(int)");
    private static final Set<String> CONSTANTS = Set.of("NO_SUCH", "BAD_VALUE", "BAD_TEXT", "TOO_MANY",
            "NOT_POSSIBLE", "NONE", "GAIN", "DAMP", "GAP", "SWING", "HOLD");

    public static void main(String[] args) throws IOException {
        Check.holds("the class is public and final",
                (InfluenceJars.class.getModifiers() & (Modifier.PUBLIC | Modifier.FINAL))
                        == (Modifier.PUBLIC | Modifier.FINAL));
        members();
        classesInside();
        membersInside();
        words();
        Check.end();
    }

    private static void members() {
        Set<String> names = new TreeSet<>();
        Set<String> methods = new TreeSet<>();
        for (Method method : InfluenceJars.class.getDeclaredMethods()) {
            if (Modifier.isPublic(method.getModifiers())) {
                methods.add(asText(method));
                names.add(method.getName());
            }
        }
        Check.holds("the public methods are those of the document: " + methods, methods.equals(METHODS));
        for (Method method : InfluenceJars.class.getDeclaredMethods()) {
            boolean isPublic = Modifier.isPublic(method.getModifiers());
            Check.holds(method + " is public or private", isPublic || Modifier.isPrivate(method.getModifiers()));
            Check.holds(method + " has its own name", isPublic || !names.contains(method.getName()));
        }
        for (Constructor<?> constructor : InfluenceJars.class.getDeclaredConstructors()) {
            boolean isPublic = Modifier.isPublic(constructor.getModifiers());
            Check.holds("one public constructor", isPublic && constructor.getParameterCount() == 0);
        }
        Set<String> constants = new TreeSet<>();
        for (Field field : InfluenceJars.class.getDeclaredFields()) {
            int modifiers = field.getModifiers();
            if (!Modifier.isPrivate(modifiers)) {
                constants.add(field.getName());
                Check.holds(field + " is a constant", modifiers == (Modifier.PUBLIC | Modifier.STATIC | Modifier.FINAL)
                        && field.getType() == int.class);
            }
            Check.holds(field + " is final, if static", !Modifier.isStatic(modifiers) || Modifier.isFinal(modifiers));
        }
        Check.holds("the constants are those of the document: " + constants, constants.equals(CONSTANTS));
    }

    private static String asText(Method method) {
        StringBuilder text = new StringBuilder(method.getReturnType() + " " + method.getName() + "(");
        for (int i = 0; i < method.getParameterCount(); i++) {
            text.append(i == 0 ? "" : ",").append(method.getParameterTypes()[i]);
        }
        return text.append(")").toString();
    }

    private static void classesInside() {
        Class<?>[] inside = InfluenceJars.class.getDeclaredClasses();
        Check.holds("at most twelve classes", inside.length < 12);
        for (Class<?> one : inside) {
            Check.holds(one + " is static", Modifier.isStatic(one.getModifiers()));
            Check.holds(one + " is not public", !Modifier.isPublic(one.getModifiers()));
            int fields = 0;
            for (Field field : one.getDeclaredFields()) {
                fields += Modifier.isStatic(field.getModifiers()) ? 0 : 1;
            }
            Check.holds(one + " has at most twenty fields", fields <= 20);
        }
    }

    /** Rule 1: no name of the face inside; rule 5: no static state; rule 11: at most seven parameters. */
    private static void membersInside() {
        Set<String> face = new TreeSet<>();
        for (Method method : InfluenceJars.class.getDeclaredMethods()) {
            if (Modifier.isPublic(method.getModifiers())) {
                face.add(method.getName());
            }
        }
        for (Class<?> one : InfluenceJars.class.getDeclaredClasses()) {
            for (Method method : one.getDeclaredMethods()) {
                Check.holds(method + " has its own name", !face.contains(method.getName()));
                Check.holds(method + " has few parameters", method.getParameterCount() <= 7);
                Check.holds(method + " is not public", !Modifier.isPublic(method.getModifiers()));
            }
            for (Field field : one.getDeclaredFields()) {
                int modifiers = field.getModifiers();
                Check.holds(field + " is final, if static", !Modifier.isStatic(modifiers) || Modifier.isFinal(modifiers));
            }
            Check.due("classes inside " + one, one.getDeclaredClasses().length, 0);
        }
    }

    private static void words() throws IOException {
        String file = Files.readString(Path.of("src", "main", "java", "InfluenceJars.java"));
        String code = file.replaceAll("(?s)/\\*.*?\\*/", " ").replaceAll("//[^\n]*", " ");
        for (String word : new String[] {"throw", "throws", "try", "catch", "synchronized", "assert", "import",
                "package", "equals", "hashCode", "toString", "float", "native", "volatile"}) {
            Check.holds("the file does without " + word, !code.matches("(?s).*\\b" + word + "\\b.*"));
        }
        for (String sign : new String[] {"->", "::", "Exact", "@"}) {
            Check.holds("the file does without " + sign, !code.contains(sign));
        }
    }
}
