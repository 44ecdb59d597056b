import java.io.IOException;
import java.lang.reflect.Constructor;
import java.lang.reflect.Field;
import java.lang.reflect.Method;
import java.lang.reflect.Modifier;
import java.nio.file.Files;
import java.nio.file.Path;
import java.util.Set;
import java.util.TreeSet;
import java.util.regex.Matcher;
import java.util.regex.Pattern;

/** The public face, and those rules of LANGUAGE.md that a text search or reflection can see. */
public final class FaceTest {
    private static final String[] FACE = {
        "int found(int)", "int bear(int,int,int)", "int die(int)", "int inherit(int)", "int append(int)",
        "int clear()", "int fault()", "int enrol()", "int why(int)", "int person(int,int)", "int mark(int,int)",
        "int whyNot(int,int,int)", "int choices(int,int)", "int best(int)", "int differs(int,int)",
        "int kin(int,int)", "int bearer(int)", "int line(int,int,int)", "int count(int)", "int borne(int,int)",
        "double unlike()", "int ifDead(int,int)", "int undo()", "int save()", "int restore()"};
    private static final String[] CONSTANTS = {
        "INVALID_ARGUMENT=-1", "NOT_POSSIBLE=-2", "LIMIT_REACHED=-3", "NOT_FOUND=-4"};
    private static final String[] FORBIDDEN = {
        "^\\s*package\\b", "^\\s*import\\b(?! java\\.util\\.(ArrayList|List|Arrays|Iterator|NoSuchElementException);)",
        "\\bfinally\\b", "\\bsynchronized\\b", "\\bassert\\b", "^(?!\\s*(case|default)\\b).*->", "::",
        "\\bSystem\\.(?!arraycopy)", "\\bThread\\b", "\\bRandom\\b", "\\bObject\\b", "\\[\\]\\[\\]\\[\\]",
        "\\bcatch\\s*\\(\\s*(final\\s+)?(Exception|Throwable|Error|NullPointer|ArrayIndex|ClassCast|NegativeArray|ArrayStore)",
        "\\bprotected\\b", "\\bstatic\\s*\\{", "[^\\x00-\\x7f]", "\\bMath\\.\\w*Exact\\b"};
    private static final Dues dues = new Dues();

    public static void main(String[] args) throws IOException {
        Class<?> face = SonMarks.class;
        dues.due("public and final", face.getModifiers(), Modifier.PUBLIC | Modifier.FINAL);
        dues.due("without a package", face.getPackageName().length(), 0);
        constructors(face);
        methods(face);
        fields(face);
        namesInside(face);
        text();
        dues.end();
    }

    private static void constructors(Class<?> face) {
        Constructor<?>[] all = face.getDeclaredConstructors();
        dues.due("constructors", all.length, 1);
        dues.due("a public one without arguments", all[0].getModifiers() + all[0].getParameterCount(), Modifier.PUBLIC);
    }

    private static void methods(Class<?> face) {
        Set<String> open = new TreeSet<>();
        for (Method method : face.getDeclaredMethods()) {
            if (!Modifier.isPrivate(method.getModifiers()) && !method.isSynthetic()) {
                String name = method.toString().replace("SonMarks.", "").replace("public ", "");
                open.add(name);
            }
        }
        Set<String> wanted = new TreeSet<>(Set.of(FACE));
        if (!open.equals(wanted)) {
            System.out.println("the face is " + open + ", due is " + wanted);
        }
        dues.due("the face's methods", open.equals(wanted) ? 1 : 0, 1);
    }

    private static void fields(Class<?> face) {
        Set<String> open = new TreeSet<>();
        for (Field field : face.getDeclaredFields()) {
            if (!Modifier.isPrivate(field.getModifiers())) {
                open.add(constant(field));
            }
            dues.due("static and not final: " + field, Modifier.isStatic(field.getModifiers())
                && !Modifier.isFinal(field.getModifiers()) ? 1 : 0, 0);
        }
        dues.due("the constants " + open, open.equals(new TreeSet<>(Set.of(CONSTANTS))) ? 1 : 0, 1);
    }

    private static String constant(Field field) {
        int wanted = Modifier.PUBLIC | Modifier.STATIC | Modifier.FINAL;
        try {
            return field.getModifiers() == wanted ? field.getName() + "=" + field.getInt(null) : "open: " + field;
        } catch (IllegalAccessException e) {
            return "closed: " + field;
        }
    }

    /** No private method, in the classes inside neither, bears the name of a public one. */
    private static void namesInside(Class<?> face) {
        Set<String> names = new TreeSet<>();
        for (String method : FACE) {
            names.add(method.substring(method.indexOf(' ') + 1, method.indexOf('(')));
        }
        dues.due("classes", face.getDeclaredClasses().length <= 11 ? 1 : 0, 1);
        for (Class<?> inside : face.getDeclaredClasses()) {
            dues.due("open class " + inside, Modifier.isPublic(inside.getModifiers()) ? 1 : 0, 0);
            dues.due("class that is not static: " + inside, Modifier.isStatic(inside.getModifiers()) ? 1 : 0, 1);
            for (Method method : inside.getDeclaredMethods()) {
                dues.due("name of a public method: " + method, names.contains(method.getName()) ? 1 : 0, 0);
            }
        }
        for (Method method : face.getDeclaredMethods()) {
            dues.due("name of a public method: " + method, Modifier.isPrivate(method.getModifiers())
                && names.contains(method.getName()) ? 1 : 0, 0);
        }
    }

    private static void text() throws IOException {
        String source = Files.readString(Path.of(System.getProperty("project.root", "."), "src/main/java/SonMarks.java"));
        String code = source.replaceAll("(?s)/\\*.*?\\*/", "").replaceAll("//[^\n]*", "");
        for (String pattern : FORBIDDEN) {
            Matcher matcher = Pattern.compile(pattern, Pattern.MULTILINE).matcher(code);
            boolean there = matcher.find();
            dues.due("what LANGUAGE.md rules out: " + (there ? matcher.group() : pattern), there ? 1 : 0, 0);
        }
    }
}
