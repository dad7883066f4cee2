import java.io.IOException;
import java.lang.reflect.Constructor;
import java.lang.reflect.Field;
import java.lang.reflect.Method;
import java.lang.reflect.Modifier;
import java.nio.file.Files;
import java.nio.file.Path;
import java.util.ArrayList;
import java.util.Arrays;
import java.util.List;
import java.util.Set;
import java.util.TreeSet;
import java.util.regex.Matcher;
import java.util.regex.Pattern;

/** The face that the document asks for, and those rules of LANGUAGE.md that can be seen in the file or the classes. */
public final class RulesTest {
    private static final String[] FACE = {
        "told(int)", "rowAt(int,int)", "dot(int,int,int)", "part(int,int)", "hole(int,int)", "row(int,int)", "turn(int,int)",
        "wipe(int)", "fill(int)", "grow()", "shrink()", "move(int,int)", "over()", "mode(int)", "drift(int)", "undo(int)",
        "alike(int,int)", "small(int)", "seed(int)", "keep(int)", "goBack(int)"};
    private static final String[] FORBIDDEN = {
        "\\bthrow\\b", "\\bthrows\\b", "\\btry\\b", "\\bcatch\\b", "\\bsynchronized\\b", "\\bassert\\b", "->", "::", "\\bimport\\b",
        "\\bpackage\\b", "\\bvolatile\\b", "\\bnative\\b", "\\bprotected\\b", "\\bvar\\b", "\\bObject\\b", "Exact\\b",
        "\\btoString\\b", "\\bhashCode\\b", "\\bstatic \\{"};
    private static int wrong = 0;

    public static void main(String[] args) throws IOException {
        face();
        constants();
        nested();
        source(Files.readString(Path.of("src/main/java/BlobRuns.java")));
        System.out.println(wrong == 0 ? "the face and the rules are kept" : wrong + " things are against the rules");
        System.exit(wrong == 0 ? 0 : 1);
    }

    private static void ask(boolean holds, String what) {
        if (!holds) {
            wrong++;
            System.out.println("against the rules: " + what);
        }
    }

    private static String signature(Method m) {
        List<String> types = new ArrayList<>();
        for (Class<?> type : m.getParameterTypes()) {
            types.add(type.getName());
        }
        return m.getName() + "(" + String.join(",", types) + ")";
    }

    private static void face() {
        int modifiers = BlobRuns.class.getModifiers();
        ask(Modifier.isPublic(modifiers) && Modifier.isFinal(modifiers), "the class is public and final");
        Constructor<?>[] made = BlobRuns.class.getDeclaredConstructors();
        ask(made.length == 1 && Modifier.isPublic(made[0].getModifiers()) && made[0].getParameterCount() == 0, "one constructor");
        Set<String> seen = new TreeSet<>();
        Set<String> hidden = new TreeSet<>();
        for (Method m : BlobRuns.class.getDeclaredMethods()) {
            if (Modifier.isPublic(m.getModifiers())) {
                seen.add(signature(m));
                ask(m.getReturnType() == int.class && !Modifier.isStatic(m.getModifiers()), signature(m) + " answers an int");
            } else {
                ask(Modifier.isPrivate(m.getModifiers()), m.getName() + " is private");
                hidden.add(m.getName());
            }
        }
        ask(seen.equals(new TreeSet<>(Arrays.asList(FACE))), "the public methods are " + seen);
        for (String call : FACE) {
            ask(!hidden.contains(call.substring(0, call.indexOf('('))), "a private method bears the name of " + call);
        }
    }

    private static void constants() {
        ask(BlobRuns.NONE == -1 && BlobRuns.UNKNOWN == -1000000001 && BlobRuns.OUTSIDE == -1000000002
            && BlobRuns.NOT == -1000000003 && BlobRuns.FULL == -1000000004, "the constants");
        int seen = 0;
        for (Field f : BlobRuns.class.getDeclaredFields()) {
            seen += Modifier.isPublic(f.getModifiers()) ? 1 : 0;
            ask(Modifier.isPublic(f.getModifiers()) || Modifier.isPrivate(f.getModifiers()), "the field " + f.getName());
        }
        ask(seen == 5, "five public constants");
    }

    private static void nested() {
        Class<?>[] inside = BlobRuns.class.getDeclaredClasses();
        ask(inside.length <= 11, "at most twelve classes");
        for (Class<?> c : inside) {
            ask(Modifier.isStatic(c.getModifiers()), c.getName() + " is static");
            for (Method m : c.getDeclaredMethods()) {
                for (String call : FACE) {
                    ask(!call.startsWith(m.getName() + "("), c.getName() + "." + m.getName() + " bears the name of a call");
                }
                ask(m.getParameterCount() <= 7, m.getName() + " has at most seven parameters");
            }
            fields(c);
        }
        fields(BlobRuns.class);
    }

    private static void fields(Class<?> c) {
        int own = 0;
        for (Field f : c.getDeclaredFields()) {
            own += Modifier.isStatic(f.getModifiers()) ? 0 : 1;
            ask(!Modifier.isStatic(f.getModifiers()) || Modifier.isFinal(f.getModifiers()), "static " + f.getName() + " is final");
        }
        ask(own <= 20, c.getName() + " has at most twenty fields");
    }

    private static void source(String text) {
        String code = text.replaceAll("(?s)/\\*.*?\\*/", "").replaceAll("//[^\n]*", "");
        for (String word : FORBIDDEN) {
            Matcher found = Pattern.compile(word).matcher(code);
            ask(!found.find(), "the file holds " + word);
        }
        ask(text.chars().allMatch(sign -> sign < 128), "plain signs");
        int length = 0;
        for (String line : text.split("\n")) {
            // Rooms are made with the object and used again: no call makes anything.
            ask(!line.contains("new ") || line.matches("    (    )?private final .* = new .*;"), "made in a call:" + line);
            length = line.matches("    (    )?[a-z].*\\) \\{") ? 0 : length + 1;
            ask(!line.matches("    (    )?\\}") || length <= 60, "a method is longer than sixty lines");
        }
    }
}
