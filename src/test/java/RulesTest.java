import java.io.IOException;
import java.lang.reflect.Constructor;
import java.lang.reflect.Field;
import java.lang.reflect.Method;
import java.lang.reflect.Modifier;
import java.nio.file.Files;
import java.nio.file.Path;
import java.util.Set;
import java.util.TreeSet;
import java.util.regex.Matcher;
import java.util.regex.Pattern;

/** The document's face, and what of LANGUAGE.md can be seen in the class and in its text. */
public final class RulesTest {
    private static final String[] FACE = {
        "int piece(int,int,int,int)", "int drop()", "int set(int,int,int)", "int of(int,int)", "int taken(int,int)",
        "long rule(int,int)", "long at(int,int)", "long scaled(int)", "int join(int,int)", "int joins()",
        "int need(int,int)", "int fault(int)", "int may(int)", "int limit()", "int least(int)", "long miss(int)",
        "int meets(int)", "int both(int,int)", "int alike(int)", "long slew(int,int)", "long slews(int,int)",
        "int by(int,int)", "long errors(int,int)", "int chance(int,int,int,int,int)", "int tells(int,int,int)",
        "int film(int,int,int)", "int feed(int,int,int,int,int,int)", "int text()", "int image()", "int back()",
        "int load(int,int,int,int)", "int count(int)", "int sheet(int,int,int)", "int put(int,int,int)",
        "int copy(int,int,int,int,int)"};
    private static final String FORBIDDEN = "\\b(throw|throws|try|catch|finally|synchronized|assert|import|package|"
        + "volatile|transient|native|record|lambda|Random|Thread|System\\.(?!arraycopy)\\w+|\\w+Exact)\\b|->|::";
    private static final String LIBRARY = "Math|System|String|StringBuilder|Integer|Long|Arrays|List";
    private static final Set<String> USED = Set.of("Math.abs", "Math.max", "Math.min", "System.arraycopy",
        "Long.MIN_VALUE");

    public static void main(String[] args) throws IOException {
        face();
        members();
        text(Files.readString(Path.of("src/main/java/RailOffsets.java")));
        Check.done("RulesTest");
    }

    private static void face() {
        Set<String> want = new TreeSet<>(Set.of(FACE));
        Set<String> got = new TreeSet<>();
        for (Method m : RailOffsets.class.getDeclaredMethods()) {
            if (!Modifier.isPrivate(m.getModifiers())) {
                StringBuilder name = new StringBuilder(m.getReturnType() + " " + m.getName() + "(");
                for (int i = 0; i < m.getParameterCount(); i++) {
                    name.append(i == 0 ? "" : ",").append(m.getParameterTypes()[i]);
                }
                got.add(name.append(")").toString());
                Check.due(m + " is public and of an object", m.getModifiers(), Modifier.PUBLIC);
            }
        }
        Check.due("methods that lack or are too many: " + want + " and " + got, want.equals(got) ? 1 : 0, 1);
        int mods = RailOffsets.class.getModifiers();
        Check.due("public final", mods & (Modifier.PUBLIC | Modifier.FINAL | Modifier.ABSTRACT),
            Modifier.PUBLIC | Modifier.FINAL);
        Constructor<?>[] made = RailOffsets.class.getDeclaredConstructors();
        Check.due("constructors", made.length, 1);
        Check.due("without parameters", made[0].getParameterCount(), 0);
        Check.due("public", Modifier.isPublic(made[0].getModifiers()) ? 1 : 0, 1);
    }

    private static void members() {
        Set<String> names = new TreeSet<>();
        for (Method m : RailOffsets.class.getDeclaredMethods()) {
            if (Modifier.isPublic(m.getModifiers())) {
                names.add(m.getName());
            }
        }
        for (Method m : RailOffsets.class.getDeclaredMethods()) {
            boolean hidden = Modifier.isPrivate(m.getModifiers());
            Check.due(m + " bears a public name", hidden && names.contains(m.getName()) ? 1 : 0, 0);
            Check.due(m + " takes seven at most", m.getParameterCount() <= 7 ? 1 : 0, 1);
        }
        Set<String> constants = Set.of("NONE", "BAD", "STATE", "FULL", "NO");
        int seen = 0;
        for (Field f : RailOffsets.class.getDeclaredFields()) {
            int mods = f.getModifiers();
            boolean open = !Modifier.isPrivate(mods);
            seen += open ? 1 : 0;
            Check.due(f + " is open", open ? 1 : 0, constants.contains(f.getName()) ? 1 : 0);
            Check.due(f + " static and not final", Modifier.isStatic(mods) && !Modifier.isFinal(mods) ? 1 : 0, 0);
        }
        Check.due("constants", seen, 5);
        for (Class<?> c : RailOffsets.class.getDeclaredClasses()) {
            Check.due(c + " is static", Modifier.isStatic(c.getModifiers()) ? 1 : 0, 1);
            Check.due(c + " is not public", Modifier.isPublic(c.getModifiers()) ? 1 : 0, 0);
        }
        Check.due("classes", RailOffsets.class.getDeclaredClasses().length <= 11 ? 1 : 0, 1);
    }

    private static void text(String text) {
        String code = text.replaceAll("(?s)/\\*.*?\\*/", "").replaceAll("//[^\n]*", "").replaceAll("\"[^\"\n]*\"", "");
        Matcher bad = Pattern.compile(FORBIDDEN).matcher(code);
        while (bad.find()) {
            Check.due("'" + bad.group() + "' stands in the class", 1, 0);
        }
        Matcher library = Pattern.compile("\\b(" + LIBRARY + ")\\.(\\w+)").matcher(code);
        while (library.find()) {
            Check.due(library.group() + " is used", USED.contains(library.group()) ? 1 : 0, 1);
        }
        for (int i = 0; i < text.length(); i++) {
            Check.due("a sign beyond 127 at " + i, text.charAt(i) < 128 ? 1 : 0, 1);
        }
        methods(code);
    }

    private static void methods(String code) {
        // A method begins at one indentation and ends with a brace at the same one.
        Matcher method = Pattern.compile("(?m)^( {4}| {8})(?! )[^\n]*\\) \\{\n(?s:.*?)^\\1\\}$").matcher(code);
        int methods = 0;
        while (method.find()) {
            methods++;
            String body = method.group();
            String head = body.lines().findFirst().orElse("").strip();
            boolean constructor = head.matches("(public )?[A-Z]\\w*\\(.*");
            Check.due("a method is too long: " + head, body.lines().count() <= 60 ? 1 : 0, 1);
            // Constructors alone make objects, so what a run makes does not grow with its calls.
            boolean makes = Pattern.compile("\\bnew\\b|\\bclone\\b").matcher(body).find();
            Check.due("an object is made by " + head, makes && !constructor ? 1 : 0, 0);
            // All others go by cell and mark, which look at the index.
            boolean indexes = Pattern.compile("\\w\\[\\w").matcher(body).find();
            boolean looks = constructor || head.matches(".* (cell|mark|sheetOf|become)\\(.*");
            Check.due("an index is used by " + head, indexes && !looks ? 1 : 0, 0);
        }
        Check.due("methods were seen", methods > 60 ? 1 : 0, 1);
    }
}
