import java.lang.reflect.Constructor;
import java.lang.reflect.Field;
import java.lang.reflect.Method;
import java.lang.reflect.Modifier;
import java.nio.file.Files;
import java.nio.file.Path;
import java.util.ArrayList;
import java.util.List;
import java.util.TreeSet;
import java.util.regex.Matcher;
import java.util.regex.Pattern;

/** The face of the class is the document's, and its source keeps to what of LANGUAGE.md a text search can tell. */
public final class FaceTest {
    private static final Path DOCUMENT = Path.of("../shared/DOC.md");
    private static final Path SOURCE = Path.of("src/main/java/WarmSide.java");

    private FaceTest() {
    }

    public static void main(String[] args) throws Exception {
        face();
        words();
        calls();
        Due.end();
    }

    private static void face() throws Exception {
        TreeSet<String> due = new TreeSet<>();
        Matcher line = Pattern.compile("^    public (int|long) (\\w+)\\((.*)\\);$", Pattern.MULTILINE)
            .matcher(Files.readString(DOCUMENT));
        while (line.find()) {
            String types = line.group(3).replaceAll(" \\w+(?=,|$)", "").replace(" ", "");
            due.add(line.group(1) + " " + line.group(2) + "(" + types + ")");
        }
        TreeSet<String> own = new TreeSet<>();
        List<String> hidden = new ArrayList<>();
        for (Method m : WarmSide.class.getDeclaredMethods()) {
            if (Modifier.isPrivate(m.getModifiers())) {
                hidden.add(m.getName());
                continue;
            }
            StringBuilder types = new StringBuilder();
            for (Class<?> type : m.getParameterTypes()) {
                types.append(types.length() == 0 ? "" : ",").append(type.getName());
            }
            own.add(m.getReturnType().getName() + " " + m.getName() + "(" + types + ")");
            Due.holds("public: " + m.getName(), Modifier.isPublic(m.getModifiers()));
        }
        Due.is("methods of the document", due.size(), 41);
        Due.holds("the face is " + own + ", due is " + due, own.equals(due));
        for (Field f : WarmSide.class.getDeclaredFields()) {
            Due.holds("private: " + f.getName(), Modifier.isPrivate(f.getModifiers()));
            Due.holds("static fields are final: " + f.getName(),
                !Modifier.isStatic(f.getModifiers()) || Modifier.isFinal(f.getModifiers()));
        }
        Constructor<?>[] makers = WarmSide.class.getDeclaredConstructors();
        Due.is("constructors", makers.length, 1);
        Due.holds("the constructor is public", Modifier.isPublic(makers[0].getModifiers()));
        Due.holds("the class is public and final", Modifier.isPublic(WarmSide.class.getModifiers())
            && Modifier.isFinal(WarmSide.class.getModifiers()));
        for (Class<?> inside : WarmSide.class.getDeclaredClasses()) {
            Due.holds("static: " + inside.getName(), Modifier.isStatic(inside.getModifiers()));
            for (Method m : inside.getDeclaredMethods()) {
                hidden.add(m.getName());
            }
        }
        for (String name : hidden) {
            for (String one : own) {
                Due.holds("no name of the face: " + name, !one.contains(" " + name + "("));
            }
        }
    }

    private static void words() throws Exception {
        String source = Files.readString(SOURCE).replaceAll("(?s)/\\*.*?\\*/", "").replaceAll("//.*", "");
        String[] banned = {
            "throw", "throws", "try", "catch", "synchronized", "assert", "System.(?!arraycopy)", "->", "::", "Exact",
            "protected", "volatile", "native", "package", "Random", "Thread", "\\.equals\\(", "hashCode", "toString",
            "double", "float", "while *\\(true\\)", "for *\\(;;",
        };
        for (String word : banned) {
            boolean plain = Character.isLetter(word.charAt(0));
            Matcher m = Pattern.compile(plain ? "\\b" + word : word).matcher(source);
            Due.holds("not in the language: " + word, !m.find());
        }
        Matcher imports = Pattern.compile("import ([\\w.]+);").matcher(source);
        while (imports.find()) {
            Due.holds("import " + imports.group(1), imports.group(1).equals("java.util.Arrays"));
        }
        Due.holds("classes", source.split("\\bclass\\b").length - 1 <= 13);
    }

    /** No line of a method but of a constructor or a field makes an object: a run's room does not shrink by calls. */
    private static void calls() throws Exception {
        for (String line : Files.readAllLines(SOURCE)) {
            if (!line.matches(".*\\bnew \\w+.*")) continue;
            Due.holds("made once: " + line.trim(), line.contains("final ") || line.matches("\\s+\\w+ = new .*"));
        }
    }
}
