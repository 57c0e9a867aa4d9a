import java.io.IOException;
import java.lang.reflect.Constructor;
import java.lang.reflect.Field;
import java.lang.reflect.Method;
import java.lang.reflect.Modifier;
import java.nio.file.Files;
import java.nio.file.Path;
import java.util.ArrayList;
import java.util.Arrays;
import java.util.List;
import java.util.Set;
import java.util.TreeSet;
import java.util.regex.Matcher;
import java.util.regex.Pattern;

/** The face as the document writes it, and the rules of LANGUAGE.md that can be seen in the source. */
public final class FaceTest {
    private static final Path DOC = Path.of("../shared/DOC.md");
    private static final Path SOURCE = Path.of("src/main/java/VernierDrawers.java");

    public static void main(String[] args) throws IOException {
        String source = Files.readString(SOURCE);
        String code = withoutComments(source);
        theFace(Files.readString(DOC));
        nothingElse();
        insideClasses();
        forbiddenWords(code);
        imports(code);
        signs(source);
        lengths(code);
        tellsParts(source);
        Check.end();
    }

    private static void theFace(String doc) {
        Set<String> due = new TreeSet<>();
        Matcher matcher = Pattern.compile("^    public (\\w+) (\\w+)\\((.*?)\\)(?: throws (.*?))?;$",
                Pattern.MULTILINE).matcher(doc);
        while (matcher.find()) {
            due.add(matcher.group(1) + " " + matcher.group(2) + "(" + matcher.group(3).replaceAll(" \\w+(, |$)", "$1")
                    + ") " + (matcher.group(4) == null ? "" : matcher.group(4)));
        }
        Set<String> got = new TreeSet<>();
        for (Method method : VernierDrawers.class.getDeclaredMethods()) {
            if (Modifier.isPublic(method.getModifiers())) {
                got.add(method.getReturnType() + " " + method.getName() + "(" + names(method.getParameterTypes())
                        + ") " + names(method.getExceptionTypes()));
                wants("not static: " + method.getName(), !Modifier.isStatic(method.getModifiers()));
            }
        }
        Check.is("the document's methods", 76, due::size);
        wants("methods " + got + ", due are " + due, got.equals(due));
        for (Method method : VernierDrawers.class.getDeclaredMethods()) {
            boolean hidden = Modifier.isPrivate(method.getModifiers());
            wants("a method that is neither public nor private: " + method.getName(),
                    hidden || Modifier.isPublic(method.getModifiers()));
            wants("a private method with a public name: " + method.getName(),
                    !hidden || !got.toString().contains(" " + method.getName() + "("));
        }
    }

    private static String names(Class<?>[] classes) {
        List<String> names = new ArrayList<>();
        for (Class<?> each : classes) {
            names.add(each.getSimpleName());
        }
        return String.join(", ", names);
    }

    private static void nothingElse() {
        Constructor<?>[] constructors = VernierDrawers.class.getDeclaredConstructors();
        wants("one constructor", constructors.length == 1);
        wants("a public constructor without parameters", constructors[0].getParameterCount() == 0
                && Modifier.isPublic(constructors[0].getModifiers()));
        wants("a final public class", VernierDrawers.class.getModifiers() == (Modifier.PUBLIC | Modifier.FINAL));
        for (Field field : VernierDrawers.class.getDeclaredFields()) {
            wants("a private field: " + field.getName(), Modifier.isPrivate(field.getModifiers()));
        }
    }

    private static void insideClasses() {
        List<Class<?>> classes = new ArrayList<>(Arrays.asList(VernierDrawers.class.getDeclaredClasses()));
        wants("at most twelve classes", classes.size() + 1 <= 12);
        classes.add(VernierDrawers.class);
        for (Class<?> each : classes) {
            boolean inside = each != VernierDrawers.class;
            wants("private and static: " + each.getName(),
                    !inside || Modifier.isPrivate(each.getModifiers()) && Modifier.isStatic(each.getModifiers()));
            int fields = 0;
            for (Field field : each.getDeclaredFields()) {
                boolean fixed = Modifier.isStatic(field.getModifiers());
                wants("a final static field: " + field.getName(), !fixed || Modifier.isFinal(field.getModifiers()));
                fields += fixed ? 0 : 1;
            }
            wants("at most twenty fields: " + each.getName(), fields <= 20);
            for (Method method : each.getDeclaredMethods()) {
                wants("at most seven parameters: " + method.getName(), method.getParameterCount() <= 7);
            }
        }
    }

    private static String withoutComments(String source) {
        return source.replaceAll("(?s)/\\*.*?\\*/", "").replaceAll("//[^\\n]*", "");
    }

    private static void forbiddenWords(String code) {
        String[] words = {"->", "::", "\\bcatch\\b", "\\btry\\b", "\\bfinally\\b", "\\bsynchronized\\b",
            "\\bassert\\b", "\\bprotected\\b", "\\bpackage\\b", "Exact\\(", "\\bSystem\\.(?!arraycopy)",
            "\\bhashCode\\b", "\\btoString\\b", "\\bObject\\b", "\\bRandom\\b", "\\bThread\\b", "\\binstanceof\\b",
            "\\bstatic \\{", "\" \\+", "\\+ \"", "\\bStringBuilder\\b", "\\bArrayList\\b", "\\bList\\b",
            "\\bMath\\.(?!min|max|abs)", "\\bArrays\\.(?!fill|copyOf)", "\\bdouble\\b", "\\bvar\\b"};
        for (String word : words) {
            Matcher matcher = Pattern.compile(word).matcher(code);
            wants("no " + word, !matcher.find());
        }
        Matcher thrown = Pattern.compile("throw (.*)").matcher(code);
        while (thrown.find()) {
            wants("throws as the rules say: " + thrown.group(1), thrown.group(1).matches(
                    "new (IllegalArgument|IllegalState|NoSuchElement)Exception\\(\"[^\"]*\"\\);"));
        }
    }

    private static void imports(String code) {
        Set<String> got = new TreeSet<>();
        Matcher matcher = Pattern.compile("import ([\\w.]+);").matcher(code);
        while (matcher.find()) {
            got.add(matcher.group(1));
        }
        wants("the imports " + got, got.equals(Set.of("java.util.Arrays", "java.util.NoSuchElementException")));
    }

    private static void signs(String source) {
        wants("signs from 1 to 127 alone", source.chars().allMatch(sign -> sign >= 1 && sign <= 127));
    }

    /** Methods have some sixty lines at most. */
    private static void lengths(String code) {
        String[] lines = code.split("\n");
        int start = -1;
        String end = "";
        for (int i = 0; i < lines.length; i++) {
            String line = lines[i];
            String indent = line.substring(0, line.length() - line.stripLeading().length());
            boolean begins = line.endsWith("{") && line.contains("(") && (indent.length() == 4 || indent.length() == 8)
                    && !line.strip().matches("(if|for|while|switch|\\}).*");
            if (begins) {
                start = i;
                end = indent + "}";
            }
            if (start >= 0 && line.equals(end)) {
                wants("a long method at " + lines[start], i - start <= 60);
                start = -1;
            }
        }
    }

    /** The parts of the interface, as the document tells them, ahead of their first calls. */
    private static void tellsParts(String source) {
        String[][] parts = {{"changes of the drawer", "addTool"}, {"changes of the bench", "addType"},
            {"tools", "tools"}, {"readings", "warmth"}, {"blocks", "blocks"}, {"types, pieces", "types"},
            {"records, charts", "mannerOf"}, {"accounts, the snapshot", "days"}, {"history, texts", "states"}};
        for (String[] part : parts) {
            Pattern pattern = Pattern.compile("// ---- " + part[0] + "\\s+public \\w+ " + part[1] + "\\(");
            wants("---- " + part[0], pattern.matcher(source).find());
        }
    }

    private static void wants(String what, boolean so) {
        Check.is(what, 1, () -> Check.of(so));
    }
}
