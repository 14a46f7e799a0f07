import java.io.IOException;
import java.lang.reflect.Constructor;
import java.lang.reflect.Field;
import java.lang.reflect.Method;
import java.lang.reflect.Modifier;
import java.nio.file.Files;
import java.nio.file.Path;
import java.util.List;
import java.util.TreeSet;
import java.util.regex.Matcher;
import java.util.regex.Pattern;

/** The public face, and those rules of LANGUAGE.md that can be read off the class or its source. */
public final class FaceTest {
    private static final Path SOURCE = Path.of("src/main/java/Kerfworks.java");
    private static final Path DOCUMENT = Path.of("../shared/DOC.md");
    private static final String[] FACE = {
        "constructor ()", "drawing int ()", "stroke int (int int int)", "finish int (int)", "redraw int (int)",
        "ofDrawing int (int int)", "length float (int)", "sheet int (int int)", "job int (int int)",
        "cancel int (int)", "cut int (int)", "ofJob int (int int)", "where int (int int int)", "free int (int)",
        "minutes int ()", "cutLength float ()", "cutAnew float ()", "NONE", "OPEN", "FINE", "WAITS", "NESTED",
        "CUT", "CANCELLED"};
    private static final String[] FORBIDDEN = {
        "->", "::", "Math\\.sqrt", "Exact\\(", "\\bfinally\\b", "\\bsynchronized\\b", "\\bassert\\b", "\\bcatch\\b",
        "\\bvar\\b", "\\bObject\\b", "\\bSystem\\.(?!arraycopy)", "\\.equals\\(", "\\.hashCode\\(", "\\.toString\\(",
        "\\bstatic (int|long|boolean|float|double|char)\\b[^(]*;", "\\+\\s*\"", "\"\\s*\\+", "[^\\x00-\\x7f]",
        "import (?!java\\.util\\.ArrayList;)"};

    private FaceTest() {
    }

    public static void main(String[] args) throws IOException {
        face();
        faceIsTheDocuments();
        constants();
        privateNames();
        fieldsOfEachClass();
        source();
        methodsAreShort();
        Check.end();
    }

    private static String types(Class<?>[] types) {
        StringBuilder text = new StringBuilder("(");
        for (Class<?> type : types) {
            text.append(text.length() > 1 ? " " : "").append(type.getName());
        }
        return text.append(")").toString();
    }

    private static void face() {
        Check.isTrue("the class is public and final",
            Modifier.isPublic(Kerfworks.class.getModifiers()) && Modifier.isFinal(Kerfworks.class.getModifiers()));
        TreeSet<String> seen = new TreeSet<>();
        for (Constructor<?> c : Kerfworks.class.getDeclaredConstructors()) {
            seen.add("constructor " + types(c.getParameterTypes()));
        }
        for (Method m : Kerfworks.class.getDeclaredMethods()) {
            if (!Modifier.isPrivate(m.getModifiers())) {
                seen.add(m.getName() + " " + m.getReturnType().getName() + " " + types(m.getParameterTypes()));
            }
        }
        for (Field f : Kerfworks.class.getDeclaredFields()) {
            if (!Modifier.isPrivate(f.getModifiers())) {
                seen.add(f.getName());
            }
        }
        Check.isTrue("the face is the document's: " + seen, seen.equals(new TreeSet<>(List.of(FACE))));
    }

    /** With the names of the arguments, and what each method throws, in its order. */
    private static void faceIsTheDocuments() throws IOException {
        String document = Files.readString(DOCUMENT);
        int begin = document.indexOf("public final class Kerfworks {");
        String code = Files.readString(SOURCE).replaceAll("\\s+", " ");
        int lines = 0;
        for (String line : document.substring(begin, document.indexOf("```", begin)).split("\n")) {
            if (!line.isBlank() && !line.equals("}")) {
                String due = line.strip().replaceAll("([^;{]*\\([^;]*);", "$1 {");
                Check.isTrue("the source has " + due, code.contains(due));
                lines++;
            }
        }
        Check.is("the lines of the document's face", lines, 21);
    }

    private static void constants() {
        for (Field f : Kerfworks.class.getFields()) {
            int modifiers = f.getModifiers();
            Check.isTrue(f + " is a constant", Modifier.isStatic(modifiers) && Modifier.isFinal(modifiers));
        }
    }

    private static void privateNames() {
        TreeSet<String> face = new TreeSet<>();
        for (String member : FACE) {
            face.add(member.split(" ")[0]);
        }
        for (Method m : Kerfworks.class.getDeclaredMethods()) {
            Check.isTrue(m + " has a name of its own",
                Modifier.isPublic(m.getModifiers()) || !face.contains(m.getName()));
            Check.isTrue(m + " has few parameters", m.getParameterCount() <= 7);
        }
        for (Class<?> inside : Kerfworks.class.getDeclaredClasses()) {
            for (Method m : inside.getDeclaredMethods()) {
                Check.isTrue(m + " has a name of its own", !face.contains(m.getName()));
                Check.isTrue(m + " has few parameters", m.getParameterCount() <= 7);
            }
        }
    }

    private static void fieldsOfEachClass() {
        Check.isTrue("few classes", Kerfworks.class.getDeclaredClasses().length < 12);
        for (Class<?> inside : Kerfworks.class.getDeclaredClasses()) {
            int modifiers = inside.getModifiers();
            Check.isTrue(inside + " is private and static",
                Modifier.isPrivate(modifiers) && Modifier.isStatic(modifiers));
            int fields = 0;
            for (Field f : inside.getDeclaredFields()) {
                if (Modifier.isStatic(f.getModifiers())) {
                    Check.isTrue(f + " is a constant", Modifier.isFinal(f.getModifiers()));
                } else {
                    fields++;
                }
            }
            Check.isTrue(inside + " has few fields", fields <= 20);
        }
    }

    private static void source() throws IOException {
        String code = Files.readString(SOURCE).replaceAll("(?s)/\\*.*?\\*/", "").replaceAll("//.*", "");
        for (String forbidden : FORBIDDEN) {
            Matcher found = Pattern.compile(forbidden).matcher(code);
            Check.isTrue("the source has no " + forbidden, !found.find());
        }
        Check.isTrue("no throw in a class inside",
            !code.substring(code.indexOf("class Outline")).contains("throw"));
    }

    private static void methodsAreShort() throws IOException {
        int since = 0;
        for (String line : Files.readAllLines(SOURCE)) {
            since = line.isBlank() ? 0 : since + 1;
            Check.isTrue("some sixty lines without a blank one at most: " + line, since <= 60);
            Check.isTrue("the line is not too long: " + line, line.length() <= 120);
        }
    }
}
