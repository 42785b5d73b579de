import java.io.IOException;
import java.lang.reflect.Constructor;
import java.lang.reflect.Field;
import java.lang.reflect.Method;
import java.lang.reflect.Modifier;
import java.nio.charset.StandardCharsets;
import java.nio.file.Files;
import java.nio.file.Path;
import java.util.TreeSet;
import java.util.regex.Matcher;
import java.util.regex.Pattern;

/** The public face, the constants, and those rules of LANGUAGE.md that can be looked up in the file. */
public final class FaceTest {
    private static final String METHODS = "int attach(int) int attachAll() int best(int,int) int clearBuffer() "
        + "int comment(int,int) int commentAt(int) int comments() int covering(int,int) int delete(int,int) "
        + "int distance(int) int insert(int) int length() int letter(int) int load() int merge() "
        + "int overlap(int,int) int quoteAnew(int) int quoted(int,int,int) int range(int,boolean) int remove(int) "
        + "int restore(int) int save(int) int score(int,int,int) int setThreshold(int) int state(int) int type(int) "
        + "int undo() int weight(int) long checksum()";
    private static final String FIELDS = "ATTACHED=1 BAD_INDEX=-1001 BAD_VALUE=-1002 FULL=-1004 NONE=-1005 "
        + "NOT_POSSIBLE=-1003 ORPHAN=0";

    public static void main(String[] args) throws IOException, IllegalAccessException {
        constants();
        members();
        source();
        Check.finish();
    }

    private static void constants() {
        Check.due("BAD_INDEX", AnchoredComments.BAD_INDEX, -1001);
        Check.due("BAD_VALUE", AnchoredComments.BAD_VALUE, -1002);
        Check.due("NOT_POSSIBLE", AnchoredComments.NOT_POSSIBLE, -1003);
        Check.due("FULL", AnchoredComments.FULL, -1004);
        Check.due("NONE", AnchoredComments.NONE, -1005);
        Check.due("ORPHAN", AnchoredComments.ORPHAN, 0);
        Check.due("ATTACHED", AnchoredComments.ATTACHED, 1);
    }

    private static void members() throws IllegalAccessException {
        TreeSet<String> methods = new TreeSet<>();
        TreeSet<String> publicNames = new TreeSet<>();
        for (Method method : AnchoredComments.class.getDeclaredMethods()) {
            if (!Modifier.isPrivate(method.getModifiers())) {
                publicNames.add(method.getName());
                StringBuilder types = new StringBuilder();
                for (Class<?> type : method.getParameterTypes()) {
                    types.append(types.length() == 0 ? "" : ",").append(type.getName());
                }
                methods.add(method.getReturnType().getName() + " " + method.getName() + "(" + types + ")");
            }
        }
        Check.due("the methods", String.join(" ", methods), METHODS);
        hidden(AnchoredComments.class, publicNames);
        for (Class<?> inside : AnchoredComments.class.getDeclaredClasses()) {
            int seen = inside.getModifiers() & (Modifier.STATIC | Modifier.PUBLIC | Modifier.PROTECTED);
            Check.due(inside + " is static and not public", seen, Modifier.STATIC);
            hidden(inside, publicNames);
        }
        TreeSet<String> fields = new TreeSet<>();
        for (Field field : AnchoredComments.class.getDeclaredFields()) {
            if (!Modifier.isPrivate(field.getModifiers())) {
                fields.add(field.getName() + "=" + field.getInt(null));
            }
        }
        Check.due("the constants", String.join(" ", fields), FIELDS);
        Constructor<?>[] made = AnchoredComments.class.getDeclaredConstructors();
        Check.due("constructors", made.length, 1);
        Check.due("constructor public", made[0].getModifiers(), Modifier.PUBLIC);
        int wanted = Modifier.PUBLIC | Modifier.FINAL;
        Check.due("class", AnchoredComments.class.getModifiers() & wanted, wanted);
    }

    /** No private method bears the name of a public one. */
    private static void hidden(Class<?> type, TreeSet<String> publicNames) {
        for (Method method : type.getDeclaredMethods()) {
            boolean hides = Modifier.isPrivate(method.getModifiers()) && publicNames.contains(method.getName());
            Check.due("private " + method, hides ? 1 : 0, 0);
        }
    }

    private static void source() throws IOException {
        String path = System.getProperty("project.main", "src/main/java/AnchoredComments.java");
        String text = Files.readString(Path.of(path), StandardCharsets.ISO_8859_1);
        text = text.replaceAll("(?s)/\\*.*?\\*/", "").replaceAll("//[^\n]*", "");
        String[] ruledOut = {
            "\\b(throw|throws|try|catch|synchronized|assert|package|protected|hashCode)\\b", "\\w+Exact\\b",
            "\\bstatic\\s*\\{", "::", "\\bimport (?!java\\.util\\.(ArrayList|List|Iterator|Arrays);)",
            "(?m)^(?!\\s*(case\\b|default\\b)).*->",
        };
        for (String pattern : ruledOut) {
            Matcher found = Pattern.compile(pattern).matcher(text);
            Check.due("what LANGUAGE.md rules out by " + pattern, found.find() ? found.group() : "", "");
        }
    }
}
