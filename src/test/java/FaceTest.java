import java.lang.reflect.Constructor;
import java.lang.reflect.Field;
import java.lang.reflect.Method;
import java.lang.reflect.Modifier;
import java.util.Set;
import java.util.TreeSet;
import java.util.regex.Matcher;
import java.util.regex.Pattern;

/** The class shows the document's face and nothing more. */
public final class FaceTest {
    private static final Set<String> FACE = Set.of(
        "boolean add(int, int, int)", "boolean advance(int)", "boolean ready(int, int)",
        "int pull(int, int)", "int clock(int)", "int deliver(int)", "boolean drop(int)",
        "boolean copy(int)", "int tick()", "int run(int)", "boolean kill(int)",
        "boolean recover(int)", "int checkpoint(int)", "int done(int)", "int early(int)",
        "int kept(int, int)", "int unconfirmed(int, int)", "int packets()", "int packet(int)",
        "int count(int)");

    private FaceTest() { }

    public static void main(String[] args) {
        Due due = new Due("face");
        Class<GradientShards> face = GradientShards.class;
        due.yes("public and final", Modifier.isPublic(face.getModifiers()) && Modifier.isFinal(face.getModifiers()));
        Set<String> shown = new TreeSet<>();
        for (Method m : face.getDeclaredMethods()) {
            if (Modifier.isPrivate(m.getModifiers())) {
                due.no("a private method named as a public one: " + m, isNameOfFace(m.getName()));
            } else {
                shown.add(signature(m));
            }
        }
        due.yes("methods " + shown, shown.equals(FACE));
        Set<String> documented = methodsOfDocument();
        due.yes("methods of the document " + documented, documented.equals(FACE));
        for (Field f : face.getDeclaredFields()) {
            due.yes("private: " + f, Modifier.isPrivate(f.getModifiers()));
        }
        Constructor<?>[] made = face.getDeclaredConstructors();
        due.is("constructors", made.length, 1);
        due.yes("public: " + made[0], Modifier.isPublic(made[0].getModifiers()));
        for (Class<?> inside : face.getDeclaredClasses()) {
            due.yes("static: " + inside, Modifier.isStatic(inside.getModifiers()));
        }
        due.close();
    }

    /** The lines of the document's face, without the names of what the methods take. */
    private static Set<String> methodsOfDocument() {
        Set<String> methods = new TreeSet<>();
        Matcher line = Pattern.compile("public (\\w+ \\w+\\(.*\\));").matcher(Document.textUnder("The public face"));
        while (line.find()) {
            methods.add(line.group(1).replaceAll("(?<=int) \\w+(?=[,)])", ""));
        }
        return methods;
    }

    private static String signature(Method m) {
        StringBuilder text = new StringBuilder(m.getReturnType() + " " + m.getName() + "(");
        for (int i = 0; i < m.getParameterCount(); i++) {
            text.append(i == 0 ? "" : ", ").append(m.getParameterTypes()[i]);
        }
        return text.append(")").toString();
    }

    private static boolean isNameOfFace(String name) {
        return FACE.stream().anyMatch(line -> line.contains(" " + name + "("));
    }
}
