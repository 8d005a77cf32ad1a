import java.io.IOException;
import java.lang.reflect.Constructor;
import java.lang.reflect.Field;
import java.lang.reflect.Method;
import java.lang.reflect.Modifier;
import java.nio.file.Files;
import java.nio.file.Path;
import java.util.ArrayList;
import java.util.Arrays;
import java.util.HashSet;
import java.util.List;
import java.util.Set;
import java.util.TreeSet;
import java.util.regex.Matcher;
import java.util.regex.Pattern;

/** The public face as the document has it, and those rules of LANGUAGE.md that can be seen from outside or by words. */
public final class FaceTest {
    private static final Path SOURCE = Path.of("src/main/java/MoustacheState.java");
    private static final Path DOCUMENT = Path.of("../shared/DOC.md");

    public static void main(String[] args) throws IOException {
        Checks.due("the face", face(), documentFace());
        membersAreHidden();
        classesInside();
        forbiddenWords();
        methodsAreShort();
        Checks.end();
    }

    private static String documentFace() throws IOException {
        Set<String> face = new TreeSet<>();
        Matcher m = Pattern.compile("(?m)^    public (.*);$").matcher(Files.readString(DOCUMENT));
        while (m.find()) {
            face.add(m.group(1).replaceAll("(\\w+) \\w+(?=[,)])", "$1"));
        }
        return String.join("\n", face);
    }

    private static String face() {
        Set<String> face = new TreeSet<>();
        for (Method m : MoustacheState.class.getDeclaredMethods()) {
            if (!Modifier.isPrivate(m.getModifiers()) && !m.isSynthetic()) {
                face.add(m.getReturnType() + " " + m.getName() + types(m.getParameterTypes()));
            }
        }
        for (Constructor<?> c : MoustacheState.class.getDeclaredConstructors()) {
            face.add("MoustacheState" + types(c.getParameterTypes()));
        }
        for (Field f : MoustacheState.class.getDeclaredFields()) {
            if (!Modifier.isPrivate(f.getModifiers())) {
                face.add("static final int " + f.getName() + " = " + MoustacheState.NONE);
            }
        }
        return String.join("\n", face);
    }

    private static String types(Class<?>[] types) {
        List<String> names = new ArrayList<>();
        for (Class<?> type : types) {
            names.add(type.getName());
        }
        return "(" + String.join(", ", names) + ")";
    }

    private static void membersAreHidden() {
        Checks.due("public and final", MoustacheState.class.getModifiers(), Modifier.PUBLIC | Modifier.FINAL);
        Set<String> open = new HashSet<>();
        List<String> hidden = new ArrayList<>();
        List<Class<?>> all = new ArrayList<>(Arrays.asList(MoustacheState.class.getDeclaredClasses()));
        all.add(MoustacheState.class);
        for (Class<?> c : all) {
            for (Method m : c.getDeclaredMethods()) {
                Checks.due("rule 11: parameters of " + m, m.getParameterCount() <= 7, true);
                if (Modifier.isPublic(m.getModifiers())) {
                    open.add(m.getName());
                } else {
                    hidden.add(m.getName());
                }
            }
        }
        for (String name : hidden) {
            Checks.due("rule 1: " + name + "() bears the name of a public one", open.contains(name), false);
        }
    }

    private static void classesInside() {
        Class<?>[] inside = MoustacheState.class.getDeclaredClasses();
        Checks.due("rule 11: some twelve classes", inside.length <= 12, true);
        for (Class<?> c : inside) {
            int modifiers = c.getModifiers();
            Checks.due("rule 2: " + c + " is static", Modifier.isStatic(modifiers), true);
            Checks.due("rule 1: " + c + " is hidden", Modifier.isPublic(modifiers) || Modifier.isProtected(modifiers), false);
            int fields = 0;
            for (Field f : c.getDeclaredFields()) {
                boolean isStatic = Modifier.isStatic(f.getModifiers());
                Checks.due("rule 5: " + f, !isStatic || Modifier.isFinal(f.getModifiers()), true);
                fields += isStatic ? 0 : 1;
            }
            Checks.due("rule 11: fields of " + c + ": " + fields, fields <= 20, true);
        }
    }

    private static void forbiddenWords() throws IOException {
        String source = Files.readString(SOURCE).replaceAll("(?s)/\\*.*?\\*/", "").replaceAll("//[^\n]*", "");
        String[] forbidden = {"throw", "throws", "try", "catch", "finally", "synchronized", "assert", "package", "import", "volatile",
            "transient", "native", "double", "float", "var", "Object", "System\\.(?!arraycopy)", "Thread", "->", "::", "while \\(true\\)",
            "for \\(;;", "\\w+Exact", "toString", "hashCode"};
        for (String word : forbidden) {
            String pattern = Character.isLetter(word.charAt(0)) ? "\\b" + word + "\\b" : word;
            Matcher m = Pattern.compile(word.endsWith(")") ? word : pattern).matcher(source);
            Checks.due("rules 3 to 6: " + word, m.find(), false);
        }
        Matcher joined = Pattern.compile("\"\\s*\\+|\\+\\s*\"").matcher(source);
        Checks.due("rule 10: texts joined by +", joined.find(), false);
    }

    private static void methodsAreShort() throws IOException {
        List<String> lines = Files.readAllLines(SOURCE);
        int begun = -1;
        for (int i = 0; i < lines.size(); i++) {
            String line = lines.get(i);
            if (line.matches("( {4}| {8})\\w.*\\) \\{")) {
                begun = i;
            }
            if (begun >= 0 && line.matches("( {4}| {8})\\}")) {
                Checks.due("rule 11: the method of line " + (begun + 1) + " is short", i - begun <= 60, true);
                begun = -1;
            }
            Checks.due("rule 4: signs 1 to 127 in line " + (i + 1), line.chars().allMatch(c -> c > 0 && c < 128), true);
        }
    }
}
