import java.io.IOException;
import java.lang.reflect.Constructor;
import java.lang.reflect.Field;
import java.lang.reflect.Method;
import java.lang.reflect.Modifier;
import java.nio.file.Files;
import java.nio.file.Path;
import java.util.Arrays;
import java.util.HashSet;
import java.util.List;
import java.util.Set;
import java.util.TreeSet;
import java.util.regex.Matcher;
import java.util.regex.Pattern;

/** The public face, and the rules of LANGUAGE.md that can be seen from the class and its source. */
public final class FaceTest {
    private static final String SOURCE = "src/main/java/SealedBallots.java";
    private static final String INDEX = "IndexOutOfBoundsException";
    private static final String ARGUMENT = "IllegalArgumentException";
    private static final String[] FACE = {
        "int load()", "int call(int) " + INDEX, "int seal(int,int) " + INDEX + " " + ARGUMENT,
        "int vote(int,int,int) " + INDEX + " " + ARGUMENT, "int close()",
        "int breakSeal(int,int,int) " + INDEX + " " + ARGUMENT, "int count()", "int recount(int) " + INDEX,
        "int giveUp()", "int setUp(int,boolean) " + INDEX, "int setLink(int,int,boolean) " + INDEX,
        "int setFresh(int,int) " + INDEX + " " + ARGUMENT, "int set(int,int) " + ARGUMENT, "int undo()",
        "int keep(int) " + ARGUMENT, "int restore(int) " + ARGUMENT + " NoSuchElementException",
        "int append(int,int,int,int,int)", "int truncate(int) " + ARGUMENT, "int office(int) " + ARGUMENT,
        "int replica(int,int) " + INDEX + " " + ARGUMENT, "boolean isLinked(int,int) " + INDEX,
        "int outcome(int,int) " + ARGUMENT, "int sealFor(int,int,int) " + INDEX + " " + ARGUMENT, "int ahead()",
        "int aheadIf(int,int) " + ARGUMENT, "boolean canWin(int) " + INDEX, "int wouldSpoil(int,int) " + INDEX,
        "int nonceFor(int,int) " + INDEX, "int callers()", "int vital()", "int why(int,int) " + INDEX + " " + ARGUMENT,
        "int gap()", "float turnout()", "double meanAge()", "int writeVotes()", "int reportByte(int)"};

    private static final Check CHECK = new Check("FaceTest");

    private FaceTest() {
    }

    public static void main(String[] args) throws IOException {
        constants();
        methods();
        nothingElse();
        namesOfOwnMethods();
        classesInside();
        source();
        CHECK.end();
    }

    private static void constants() {
        CHECK.is("NONE", SealedBallots.NONE, -1);
        CHECK.is("NO_ROOM", SealedBallots.NO_ROOM, -20);
        CHECK.isTrue("the class is public and final",
                SealedBallots.class.getModifiers() == (Modifier.PUBLIC | Modifier.FINAL));
    }

    private static String face(Method method) {
        StringBuilder face = new StringBuilder(method.getReturnType() + " " + method.getName() + "(");
        for (Class<?> type : method.getParameterTypes()) {
            face.append(face.charAt(face.length() - 1) == '(' ? "" : ",").append(type);
        }
        face.append(")");
        for (Class<?> thrown : method.getExceptionTypes()) {
            face.append(" ").append(thrown.getSimpleName());
        }
        return face.toString();
    }

    private static void methods() {
        Set<String> found = new TreeSet<>();
        for (Method method : SealedBallots.class.getDeclaredMethods()) {
            if (Modifier.isPublic(method.getModifiers())) {
                found.add(face(method));
                CHECK.isFalse(method.getName() + " is static", Modifier.isStatic(method.getModifiers()));
            }
        }
        CHECK.isSame("the public methods", found, new TreeSet<>(Arrays.asList(FACE)));
    }

    private static void nothingElse() {
        for (Method method : SealedBallots.class.getDeclaredMethods()) {
            int modifiers = method.getModifiers();
            CHECK.isTrue(method.getName() + " is public or private",
                    Modifier.isPublic(modifiers) || Modifier.isPrivate(modifiers));
        }
        Set<String> fields = new TreeSet<>();
        for (Field field : SealedBallots.class.getDeclaredFields()) {
            if (!Modifier.isPrivate(field.getModifiers())) {
                fields.add(Modifier.toString(field.getModifiers()) + " " + field.getName());
            }
        }
        CHECK.isSame("the fields that are not private", fields,
                new TreeSet<>(List.of("public static final NONE", "public static final NO_ROOM")));
        Constructor<?>[] constructors = SealedBallots.class.getDeclaredConstructors();
        CHECK.is("constructors", constructors.length, 1);
        CHECK.isTrue("the constructor is public", Modifier.isPublic(constructors[0].getModifiers()));
        CHECK.is("its parameters", constructors[0].getParameterCount(), 0);
    }

    private static void namesOfOwnMethods() {
        Set<String> names = new HashSet<>();
        for (String face : FACE) {
            names.add(face.substring(face.indexOf(' ') + 1, face.indexOf('(')));
        }
        for (Method method : SealedBallots.class.getDeclaredMethods()) {
            boolean isOwn = !Modifier.isPublic(method.getModifiers());
            CHECK.isFalse("the own method " + method.getName() + " bears a public name",
                    isOwn && names.contains(method.getName()));
        }
        for (Class<?> inside : SealedBallots.class.getDeclaredClasses()) {
            for (Method method : inside.getDeclaredMethods()) {
                CHECK.isFalse("the method " + inside.getSimpleName() + "." + method.getName() + " bears a public name",
                        names.contains(method.getName()));
                CHECK.isTrue(method.getName() + " has seven parameters or fewer", method.getParameterCount() <= 7);
            }
        }
    }

    private static void classesInside() {
        Class<?>[] classes = SealedBallots.class.getDeclaredClasses();
        CHECK.isTrue("twelve classes or fewer", classes.length + 1 <= 12);
        for (Class<?> inside : classes) {
            int modifiers = inside.getModifiers();
            CHECK.isTrue(inside + " is static", Modifier.isStatic(modifiers));
            CHECK.isFalse(inside + " is public or protected",
                    Modifier.isPublic(modifiers) || Modifier.isProtected(modifiers));
        }
        for (Field field : SealedBallots.class.getDeclaredFields()) {
            int modifiers = field.getModifiers();
            CHECK.isTrue("the static field " + field.getName() + " is final",
                    !Modifier.isStatic(modifiers) || Modifier.isFinal(modifiers));
        }
    }

    private static void source() throws IOException {
        String source = Files.readString(Path.of(SOURCE));
        CHECK.isTrue("the source is plain ASCII", source.chars().allMatch(c -> c == '\n' || c >= 32 && c < 127));
        String code = source.replaceAll("(?s)/\\*.*?\\*/", "").replaceAll("//[^\n]*", "")
                .replaceAll("\"[^\"\n]*\"", "TEXT");
        CHECK.isSame("the imports", found(code, "import [^;]*;"), Set.of("import java.util.NoSuchElementException;"));
        for (String ruledOut : new String[] {"->", "::", "\\bpackage\\b", "\\btry\\b", "\\bcatch\\b", "\\bfinally\\b",
            "\\bsynchronized\\b", "\\bassert\\b", "\\bvolatile\\b", "\\bprotected\\b", "static *\\{", "TEXT *\\+",
            "\\+ *TEXT", "\\bequals\\(", "\\bhashCode\\(", "\\btoString\\(", "Exact\\(",
            "\\bjava\\.(?!util\\.NoSuch)"}) {
            CHECK.isSame("what rules out " + ruledOut, found(code, ruledOut), Set.of());
        }
        CHECK.isSame("the library's own functions", found(code, "\\b(Integer|Math|System|Arrays|Long)\\.[a-zA-Z]+"),
                Set.of("Integer.bitCount", "Math.abs", "Math.max", "Math.min", "System.arraycopy"));
        CHECK.isSame("what is thrown", found(code, "throw [^;]*;"),
                Set.of("throw new IndexOutOfBoundsException(TEXT);", "throw new IllegalArgumentException(TEXT);",
                        "throw new NoSuchElementException(TEXT);"));
    }

    private static Set<String> found(String code, String pattern) {
        Set<String> found = new HashSet<>();
        Matcher each = Pattern.compile(pattern).matcher(code);
        while (each.find()) {
            found.add(each.group());
        }
        return found;
    }
}
