import java.io.IOException;
import java.lang.reflect.Constructor;
import java.lang.reflect.Field;
import java.lang.reflect.Method;
import java.lang.reflect.Modifier;
import java.nio.file.Files;
import java.nio.file.Path;
import java.util.Arrays;
import java.util.Set;
import java.util.TreeSet;
import java.util.regex.Pattern;

/** The face of the document, and those rules of LANGUAGE.md that can be read off the class or its file. */
final class FaceTest {
    private static final Due due = new Due("FaceTest");
    private static final Set<String> FACE = Set.of(
        "int send(int)", "void octet(int,int,byte)", "int frame(int,int)", "int receive(int)",
        "boolean lose(int)", "int flow(int,int,int)", "int tick(long)", "byte got(int)", "int length()",
        "int ended(int)", "int wait2(int)", "int functional(boolean)");

    public static void main(String[] args) throws IOException {
        theFaceIsTheDocuments();
        nestedClassesKeepTheRules();
        theFileKeepsTheRules();
        due.finish();
    }

    private static String faceOf(Method m) {
        StringBuilder text = new StringBuilder(m.getReturnType() + " " + m.getName() + "(");
        for (int i = 0; i < m.getParameterTypes().length; i++) {
            text.append(i == 0 ? "" : ",").append(m.getParameterTypes()[i]);
        }
        return text.append(")").toString();
    }

    private static void theFaceIsTheDocuments() {
        Class<?> c = LongTransfer.class;
        due.is("public and final", true, Modifier.isPublic(c.getModifiers()) && Modifier.isFinal(c.getModifiers()));
        due.is("no class above it", true, c.getSuperclass() == Object.class && c.getInterfaces().length == 0);
        Constructor<?>[] makers = c.getDeclaredConstructors();
        due.is("constructors", 1, makers.length);
        due.is("LongTransfer(int)", true, Modifier.isPublic(makers[0].getModifiers())
            && Arrays.equals(makers[0].getParameterTypes(), new Class<?>[] {int.class}));
        Set<String> seen = new TreeSet<>();
        Set<String> names = new TreeSet<>();
        for (Method m : c.getDeclaredMethods()) {
            if (Modifier.isPublic(m.getModifiers())) {
                seen.add(faceOf(m));
                names.add(m.getName());
            }
        }
        due.is("public methods " + seen, true, seen.equals(FACE));
        for (Method m : c.getDeclaredMethods()) {
            boolean hidden = Modifier.isPrivate(m.getModifiers());
            due.is(m + " is of the face or hidden", true, hidden != FACE.contains(faceOf(m)));
            due.is(m + " bears a name of its own", true, !hidden || !names.contains(m.getName()));
            due.is(m + " takes at most seven", true, m.getParameterCount() <= 7);
            due.is(m + " tells what it throws", true, Arrays.equals(m.getExceptionTypes(), thrownBy(m)));
        }
        fieldsKeepTheRules(c);
        for (Field f : c.getDeclaredFields()) {
            due.is(f + " is hidden", true, Modifier.isPrivate(f.getModifiers()));
        }
    }

    private static Class<?>[] thrownBy(Method m) {
        boolean throwsSome = m.getName().equals("got");
        return throwsSome ? new Class<?>[] {ArrayIndexOutOfBoundsException.class} : new Class<?>[0];
    }

    private static void fieldsKeepTheRules(Class<?> c) {
        int own = 0;
        for (Field f : c.getDeclaredFields()) {
            boolean isStatic = Modifier.isStatic(f.getModifiers());
            due.is(f + " is final if it is static", true, !isStatic || Modifier.isFinal(f.getModifiers()));
            own += isStatic ? 0 : 1;
        }
        due.is(c + " has at most twenty fields", true, own <= 20);
    }

    private static void nestedClassesKeepTheRules() {
        Class<?>[] nested = LongTransfer.class.getDeclaredClasses();
        due.is("at most twelve classes", true, nested.length < 12);
        for (Class<?> c : nested) {
            due.is(c + " is static and hidden", true,
                Modifier.isStatic(c.getModifiers()) && Modifier.isPrivate(c.getModifiers()));
            fieldsKeepTheRules(c);
        }
    }

    private static void theFileKeepsTheRules() throws IOException {
        String file = Files.readString(Path.of("src/main/java/LongTransfer.java"));
        String[] outside = {"\\bpackage\\b", "\\bcatch\\b", "\\bfinally\\b", "\\bsynchronized\\b", "\\bassert\\b",
            "->", "::", "\\bprotected\\b", "Exact\\b", "\\bSystem\\.(?!arraycopy)", "\\bThread\\b", "\\bRandom\\b",
            "\\bstatic\\s*\\{", "\\bfor\\s*\\(\\s*;\\s*;", "\\bwhile\\b", "[^\\x00-\\x7f]",
            "import (?!java\\.util\\.(ArrayList|Arrays);)", "\\b(hashCode|equals|toString)\\b"};
        for (String pattern : outside) {
            due.is("the file has " + pattern, false, Pattern.compile(pattern).matcher(file).find());
        }
        due.is("throws", 1, file.split("throw new ", -1).length - 1);
    }
}
