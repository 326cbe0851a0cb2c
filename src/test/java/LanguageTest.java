import java.lang.reflect.Constructor;
import java.lang.reflect.Field;
import java.lang.reflect.Method;
import java.lang.reflect.Modifier;
import java.nio.file.Files;
import java.nio.file.Path;
import java.util.Arrays;
import java.util.List;
import java.util.TreeSet;
import java.util.regex.Matcher;
import java.util.regex.Pattern;

/** Rules of LANGUAGE.md that the face and the text of the class can tell. */
public final class LanguageTest {
    private static final String FACE = "letter1 parish0 need2 writer2 law1 err1 score2 goes1 post1 day0 allNeed0 can1 "
        + "who0 never1 before2 order1 forget0 met2 best1 greedy0 forty2 going2 think3 tell2 laws1 eye3 surest1 "
        + "morning0 writes1 both2 year2 row1 judge0 image0 on0 count1";
    private static final String[] NEVER = {"\\bthrow\\b", "\\btry\\b", "\\bcatch\\b", "\\bsynchronized\\b",
        "\\bassert\\b", "->", "::", "\\bimport\\b", "\\bpackage\\b", "\\bstatic\\s*\\{", "\\bdouble\\b", "\\bfloat\\b",
        "Exact\\b", "\\bObject\\b", "@", "\\bvar\\b", "hashCode", "toString", "\\bSystem\\.(?!arraycopy)"};

    private LanguageTest() { }

    public static void main(String[] args) throws Exception {
        face();
        nested();
        text(Files.readString(Path.of(System.getProperty("source", "src/main/java/ToWhoNeeds.java"))));
        Check.end();
    }

    private static void face() {
        List<String> due = Arrays.asList(FACE.split(" "));
        TreeSet<String> there = new TreeSet<>();
        TreeSet<String> hidden = new TreeSet<>();
        for (Method m : ToWhoNeeds.class.getDeclaredMethods()) {
            if (Modifier.isPrivate(m.getModifiers())) {
                hidden.add(m.getName());
                continue;
            }
            boolean isFace = Modifier.isPublic(m.getModifiers()) && !Modifier.isStatic(m.getModifiers())
                && m.getReturnType() == int.class && Arrays.stream(m.getParameterTypes()).allMatch(t -> t == int.class);
            Check.due(m.getName() + " is of the face", isFace ? 1 : 0, 1);
            there.add(m.getName() + m.getParameterCount());
        }
        Check.due("the methods of the face " + there, there.equals(new TreeSet<>(due)) ? 1 : 0, 1);
        for (String name : due) {
            boolean isTwice = hidden.contains(name.substring(0, name.length() - 1));
            Check.due("a private method bears the name " + name, isTwice ? 1 : 0, 0);
        }
        for (Field f : ToWhoNeeds.class.getDeclaredFields()) {
            Check.due(f.getName() + " is private", Modifier.isPrivate(f.getModifiers()) ? 1 : 0, 1);
        }
        Constructor<?>[] makers = ToWhoNeeds.class.getConstructors();
        Check.due("constructors", makers.length, 1);
        Check.due("parameters of the constructor", makers[0].getParameterCount(), 0);
        int modifiers = ToWhoNeeds.class.getModifiers();
        Check.due("public and final", Modifier.isPublic(modifiers) && Modifier.isFinal(modifiers) ? 1 : 0, 1);
    }

    private static void nested() {
        Class<?>[] classes = ToWhoNeeds.class.getDeclaredClasses();
        Check.due("at most twelve classes", classes.length + 1 <= 12 ? 1 : 0, 1);
        for (Class<?> c : classes) {
            Check.due(c + " is static", Modifier.isStatic(c.getModifiers()) ? 1 : 0, 1);
            Check.due(c + " is not public", Modifier.isPublic(c.getModifiers()) ? 1 : 0, 0);
            long fields = Arrays.stream(c.getDeclaredFields()).filter(f -> !Modifier.isStatic(f.getModifiers())).count();
            Check.due(c + " has at most twenty fields", fields <= 20 ? 1 : 0, 1);
            for (Method m : c.getDeclaredMethods()) {
                Check.due(m + " has at most seven parameters", m.getParameterCount() <= 7 ? 1 : 0, 1);
            }
            for (Field f : c.getDeclaredFields()) {
                boolean isKept = !Modifier.isStatic(f.getModifiers()) || Modifier.isFinal(f.getModifiers());
                Check.due(f + " is no static state", isKept ? 1 : 0, 1);
            }
        }
    }

    private static void text(String source) {
        String code = source.replaceAll("(?s)/\\*.*?\\*/", " ").replaceAll("//[^\\n]*", " ");
        for (String word : NEVER) {
            Matcher found = Pattern.compile(word).matcher(code);
            Check.due("the text has " + word, found.find() ? 1 : 0, 0);
        }
        for (int i = 0; i < source.length(); i++) {
            if (source.charAt(i) > 126) {
                Check.fault("a sign beyond 126 at " + i);
            }
        }
        // All that a call needs is made with the object, so that 512 calls make nothing.
        Matcher made = Pattern.compile("\\n    (public|private) (static )?int \\w+\\([^{]*\\{[^}]*\\bnew\\b").matcher(code);
        Check.due("a method of the face makes an object", made.find() ? 1 : 0, 0);
    }
}
