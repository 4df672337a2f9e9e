import java.io.IOException;
import java.lang.reflect.Constructor;
import java.lang.reflect.Field;
import java.lang.reflect.Method;
import java.lang.reflect.Modifier;
import java.nio.file.Files;
import java.nio.file.Path;
import java.util.ArrayList;
import java.util.List;
import java.util.TreeSet;

/** The public face is that of the document, and the source keeps off what LANGUAGE.md leaves out. */
public final class FaceTest {
    private static final String[] FACE = {
        "int type(char) IllegalArgumentException IllegalStateException",
        "int clearText()",
        "boolean isPath()",
        "boolean isGlob()",
        "int addFile(int) IllegalArgumentException IllegalStateException",
        "int findFile()",
        "int edit(int int) IndexOutOfBoundsException IllegalArgumentException",
        "int delete(int) IndexOutOfBoundsException",
        "int files()",
        "boolean matches(int) IndexOutOfBoundsException IllegalStateException",
        "int addTarget(int) IllegalArgumentException IllegalStateException",
        "int addGlob(int) IndexOutOfBoundsException IllegalArgumentException IllegalStateException",
        "int depend(int int) IndexOutOfBoundsException IllegalStateException",
        "int targets()",
        "int inputs(int) IndexOutOfBoundsException",
        "int above(int) IndexOutOfBoundsException",
        "int orderAt(int) IndexOutOfBoundsException",
        "int affectedBy(int) IndexOutOfBoundsException",
        "int affectedByGoingDown(int) IndexOutOfBoundsException",
        "int keyOf(int) IndexOutOfBoundsException",
        "int needed()",
        "int whyRun(int) IndexOutOfBoundsException",
        "int run(int) IndexOutOfBoundsException IllegalStateException",
        "int runAll() IllegalStateException",
        "int keys()",
        "int shardOf(int int) IndexOutOfBoundsException IllegalArgumentException",
        "int longestShard(int) IllegalArgumentException",
        "int shardsFor(int) IllegalArgumentException",
        "int addRule(int) IndexOutOfBoundsException IllegalArgumentException IllegalStateException",
        "int ownerOf(int) IndexOutOfBoundsException",
        "int mark()",
        "int changed()",
        "int reviewers()",
    };

    private static final String[] LEFT_OUT = {"->", "::", "finally", "synchronized", "assert", "catch",
        "try", "package", "float", "double", "Object", "Exact", "Map", "Set", "Stream", "System.out",
        "instanceof", "equals", "hashCode", "toString", "%", " / "};

    private FaceTest() {
    }

    public static void main(String[] args) throws IOException {
        theFace();
        nothingElse();
        theSource(args.length > 0 ? args[0] : "src/main/java/Monobuild.java");
        Check.finish("FaceTest");
    }

    private static String face(Method method) {
        StringBuilder line = new StringBuilder();
        line.append(method.getReturnType().getSimpleName()).append(' ').append(method.getName()).append('(');
        String between = "";
        for (Class<?> type : method.getParameterTypes()) {
            line.append(between).append(type.getSimpleName());
            between = " ";
        }
        line.append(')');
        for (Class<?> type : method.getExceptionTypes()) {
            line.append(' ').append(type.getSimpleName());
        }
        return line.toString();
    }

    private static void theFace() {
        TreeSet<String> got = new TreeSet<>();
        for (Method method : Monobuild.class.getDeclaredMethods()) {
            if (Modifier.isPublic(method.getModifiers())) {
                Check.same(method.getName() + " is no static method",
                        Modifier.isStatic(method.getModifiers()), false);
                got.add(face(method));
            }
        }
        Check.same("the methods", got, new TreeSet<>(List.of(FACE)));
        Check.same("NONE", Monobuild.NONE, -1);
        Check.same("the class is final", Modifier.isFinal(Monobuild.class.getModifiers()), true);
        Constructor<?>[] constructors = Monobuild.class.getDeclaredConstructors();
        Check.same("one constructor", constructors.length, 1);
        Check.same("it is public", Modifier.isPublic(constructors[0].getModifiers()), true);
        Check.same("it takes nothing", constructors[0].getParameterCount(), 0);
    }

    private static void nothingElse() {
        TreeSet<String> publicNames = new TreeSet<>();
        for (String line : FACE) {
            publicNames.add(line.substring(line.indexOf(' ') + 1, line.indexOf('(')));
        }
        for (Field field : Monobuild.class.getDeclaredFields()) {
            Check.same(field.getName() + " is NONE or private",
                    field.getName().equals("NONE") || Modifier.isPrivate(field.getModifiers()), true);
            Check.same(field.getName() + " is final", Modifier.isFinal(field.getModifiers()), true);
        }
        List<Class<?>> classes = new ArrayList<>(List.of(Monobuild.class.getDeclaredClasses()));
        classes.add(Monobuild.class);
        Check.same("at most twelve classes", classes.size() <= 12, true);
        for (Class<?> c : classes) {
            for (Method method : c.getDeclaredMethods()) {
                boolean isFace = c == Monobuild.class && Modifier.isPublic(method.getModifiers());
                Check.same(c.getName() + "." + method.getName() + " takes at most seven",
                        method.getParameterCount() <= 7, true);
                Check.same(c.getName() + "." + method.getName() + " does not bear a public name",
                        !isFace && publicNames.contains(method.getName()), false);
                Check.same(c.getName() + "." + method.getName() + " is private in the face's class",
                        isFace || c != Monobuild.class || Modifier.isPrivate(method.getModifiers()), true);
            }
        }
    }

    /** The code without its comments and texts. */
    private static String code(String source) {
        return source.replaceAll("(?s)/\\*.*?\\*/", "").replaceAll("//[^\n]*", "")
                .replaceAll("'[^']'", "0").replaceAll("\"[^\"\n]*\"", "TEXT");
    }

    private static void theSource(String file) throws IOException {
        String source = Files.readString(Path.of(file));
        for (int i = 0; i < source.length(); i++) {
            if (source.charAt(i) > 126) {
                Check.same("sign at " + i + " is plain", false, true);
            }
        }
        String code = code(source);
        for (String word : LEFT_OUT) {
            boolean isWord = Character.isLetter(word.charAt(0));
            String pattern = isWord ? "(?s).*\\b" + word + "\\b.*" : "(?s).*" + java.util.regex.Pattern.quote(word) + ".*";
            Check.same("the source uses " + word, code.matches(pattern), false);
        }
        for (String line : code.split("\n")) {
            if (line.startsWith("import")) {
                Check.same("an import", line, "import java.util.Arrays;");
            }
        }
    }
}
