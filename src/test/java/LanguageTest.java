import java.io.IOException;
import java.lang.reflect.Constructor;
import java.lang.reflect.Field;
import java.lang.reflect.Method;
import java.lang.reflect.Modifier;
import java.nio.file.Files;
import java.nio.file.Path;
import java.util.ArrayList;
import java.util.Arrays;
import java.util.List;
import java.util.TreeSet;

/** The face of the document, and those rules of ../shared/LANGUAGE.md that can be looked up. */
public final class LanguageTest {
    private static final String[] FACE = {
        "feed 5 int", "end 1 boolean", "session 0 int", "fault 0 int", "slide 2 int", "row 4 int", "hearer 2 int", "thinks 3 int",
        "now 1 int", "show 2 int", "over 2 int", "scratch 3 int", "sit 2 int", "hours 1 int", "undo 0 int", "sighs 2 int",
        "best 1 int", "spreads 1 int", "order 0 int", "orderAt 1 int", "moved 2 int", "movedWho 0 int", "scratches 1 int",
        "scratched 0 int", "seen 0 int", "alike 1 int", "differ 2 int", "parts 0 int", "bill 1 int", "byteAt 1 int", "drawn 2 int",
        "odds 3 int", "book 1 int", "told 1 int", "sentence 0 int", "said 1 int", "image 1 boolean", "restore 1 boolean", "count 1 int"};
    private static final String[] NOT_THERE = {
        "catch", "try {", "finally", "synchronized", "assert ", "static {", "->", "::", "Exact(", "yield", "float", "double",
        "System.out", "hashCode", "toString", "instanceof", "protected", "Object", " new int[n", "while (true)", "\" +", "+ \""};

    public static void main(String[] args) throws IOException {
        Class<?> face = LanternState.class;
        TreeSet<String> publics = new TreeSet<>();
        TreeSet<String> names = new TreeSet<>();
        for (Method m : face.getDeclaredMethods()) {
            if (Modifier.isPublic(m.getModifiers())) {
                publics.add(m.getName() + " " + m.getParameterCount() + " " + m.getReturnType().getName());
                names.add(m.getName());
            } else {
                due("private " + m.getName(), Modifier.isPrivate(m.getModifiers()));
            }
        }
        due("the face is the document's: " + publics, publics.equals(new TreeSet<>(Arrays.asList(FACE))));
        due("final and public", Modifier.isFinal(face.getModifiers()) && Modifier.isPublic(face.getModifiers()));
        Constructor<?>[] constructors = face.getDeclaredConstructors();
        due("one constructor", constructors.length == 1 && Modifier.isPublic(constructors[0].getModifiers()));
        Check.due("NONE", LanternState.NONE, -1);
        List<Class<?>> all = new ArrayList<>(Arrays.asList(face.getDeclaredClasses()));
        due("at most twelve classes", all.size() + 1 <= 12);
        for (Class<?> c : all) {
            due(c.getName() + " is static and not public", Modifier.isStatic(c.getModifiers()) && !Modifier.isPublic(c.getModifiers()));
        }
        all.add(face);
        for (Class<?> c : all) {
            members(c, names);
        }
        source();
        Check.finish("LanguageTest");
    }

    private static void due(String what, boolean is) {
        Check.due(what, is, true);
    }

    private static void members(Class<?> c, TreeSet<String> publicNames) {
        int fields = 0;
        for (Field f : c.getDeclaredFields()) {
            boolean isStatic = Modifier.isStatic(f.getModifiers());
            fields += isStatic ? 0 : 1;
            due("static " + f.getName() + " is final", !isStatic || Modifier.isFinal(f.getModifiers()));
            boolean hidden = c != LanternState.class || Modifier.isPrivate(f.getModifiers()) || f.getName().equals("NONE");
            due(f.getName() + " is private", hidden);
        }
        due(c.getName() + " has some twenty fields: " + fields, fields <= 21);
        for (Method m : c.getDeclaredMethods()) {
            due(m.getName() + " takes at most seven", m.getParameterCount() <= 7);
            due(m.getName() + " bears no public name", c == LanternState.class || !publicNames.contains(m.getName()));
        }
    }

    private static void source() throws IOException {
        List<String> lines = Files.readAllLines(Path.of("src/main/java/LanternState.java"));
        int method = 0;
        for (int i = 0; i < lines.size(); i++) {
            String line = lines.get(i);
            for (String word : NOT_THERE) {
                due("line " + (i + 1) + " has no '" + word + "'", !line.contains(word));
            }
            due("line " + (i + 1) + " imports what is told", !line.startsWith("import") || line.equals("import java.util.NoSuchElementException;"));
            boolean madeOnce = line.contains(" final ") || line.startsWith("        final ") || line.contains("throw new")
                || line.contains("images[k] = new Image();") || line.contains("kept[i] = new State();");
            due("line " + (i + 1) + " makes nothing in a call", !line.contains(" new ") || madeOnce);
            if (line.matches(" {4}(    )?[a-z].*\\) (throws NoSuchElementException )?\\{")) {
                method = i;
            }
            if (line.matches(" {4}(    )?\\}")) {
                due("the method at line " + (method + 1) + " is short", method == 0 || i - method <= 60 || line.equals("    }"));
            }
            for (int k = 0; k < line.length(); k++) {
                due("line " + (i + 1) + " is plain text", line.charAt(k) < 127);
            }
        }
    }
}
