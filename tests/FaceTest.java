import java.lang.reflect.Constructor;
import java.lang.reflect.Field;
import java.lang.reflect.Method;
import java.lang.reflect.Modifier;
import java.nio.file.Files;
import java.nio.file.Path;
import java.util.ArrayList;
import java.util.Arrays;
import java.util.HashSet;
import java.util.List;
import java.util.Set;
import java.util.TreeSet;
import java.util.regex.Matcher;
import java.util.regex.Pattern;

/** The document's face, and those rules of LANGUAGE.md that can be looked up in the class and in its text. */
public final class FaceTest {
    private static final String[] FACE = {"int feed(int, int, int, int, int)", "int mill(int)", "int fault()", "int where()",
        "boolean set(int, int, int)", "boolean mend(int, boolean)", "int go(int)", "int tons(int, int)", "int state(int)",
        "boolean program(int, int, int, int)", "int seen(int, int, int, int)", "int forget()", "int fits()",
        "int fitAt(int, int)", "int certain(int)", "int guess(int, int, int, int, int)", "int swapped()", "int plan(int)",
        "int rate(int)", "int rule(int)", "int lacks(int)", "int number(boolean, int)", "int chance()", "int splits()",
        "int clear()", "int marks(int, int, int, int, int, int)", "int led(int)", "int size(int)", "int trouble()"};

    private static final Checks checks = new Checks();

    public static void main(String[] args) throws Exception {
        theFace();
        theClassesInside();
        theText(withoutComments(Files.readString(Path.of("src/main/java/RoarMill.java"))));
        checks.finish();
    }

    private static String told(Method m) {
        List<String> types = new ArrayList<>();
        for (Class<?> c : m.getParameterTypes()) {
            types.add(c.getName());
        }
        return m.getReturnType().getName() + " " + m.getName() + "(" + String.join(", ", types) + ")";
    }

    private static void theFace() throws Exception {
        checks.in("the face");
        Set<String> open = new TreeSet<>();
        Set<String> closed = new HashSet<>();
        for (Method m : RoarMill.class.getDeclaredMethods()) {
            if (Modifier.isPrivate(m.getModifiers())) {
                closed.add(m.getName());
            } else {
                open.add(told(m));
                checks.due(m.getName() + " is public", Modifier.isPublic(m.getModifiers()), true);
                checks.due(m.getName() + " is of an object", Modifier.isStatic(m.getModifiers()), false);
                checks.due(m.getName() + " throws", m.getExceptionTypes().length, m.getName().equals("led") ? 1 : 0);
            }
        }
        checks.due("its calls are those of the document", open.equals(new TreeSet<>(Arrays.asList(FACE))), true);
        for (String call : FACE) {
            String name = call.replaceAll(".* |\\(.*", "");
            checks.due("a private method bears the name " + name, closed.contains(name), false);
        }
        for (Field f : RoarMill.class.getDeclaredFields()) {
            checks.due(f.getName() + " is private", Modifier.isPrivate(f.getModifiers()), !f.getName().equals("NONE"));
        }
        checks.due("NONE", RoarMill.class.getField("NONE").getInt(null), -1);
        Constructor<?>[] made = RoarMill.class.getDeclaredConstructors();
        checks.due("constructors", made.length, 1);
        checks.due("it is public", Modifier.isPublic(made[0].getModifiers()), true);
        checks.due("the class is final", Modifier.isFinal(RoarMill.class.getModifiers()), true);
    }

    private static void theClassesInside() {
        Class<?>[] inside = RoarMill.class.getDeclaredClasses();
        checks.due("classes", inside.length + 1 <= 12, true);
        for (Class<?> c : inside) {
            checks.in(c.getName());
            checks.due("is static", Modifier.isStatic(c.getModifiers()), true);
            checks.due("is public", Modifier.isPublic(c.getModifiers()), false);
            fields(c);
        }
        checks.in("RoarMill");
        fields(RoarMill.class);
    }

    private static void fields(Class<?> c) {
        int own = 0;
        for (Field f : c.getDeclaredFields()) {
            boolean constant = Modifier.isStatic(f.getModifiers());
            own += constant ? 0 : 1;
            checks.due(f.getName() + " is final if it is static", !constant || Modifier.isFinal(f.getModifiers()), true);
        }
        checks.due("fields, some twenty", own <= 20, true);
        for (Method m : c.getDeclaredMethods()) {
            checks.due(m.getName() + " takes at most seven", m.getParameterCount() <= 7, true);
        }
    }

    private static String withoutComments(String text) {
        return text.replaceAll("(?s)/\\*.*?\\*/", "").replaceAll("//[^\n]*", "");
    }

    private static void theText(String text) {
        checks.in("the text");
        String[] ruledOut = {"->", "::", "\\bcatch\\b", "\\btry\\b", "\\bfinally\\b", "\\bsynchronized\\b", "\\bassert\\b",
            "\\bprotected\\b", "\\bpackage\\b", "Exact\\(", "\\bdouble\\b", "\\bfloat\\b", "\\bSystem\\.(?!arraycopy)",
            "\\bThread\\b", "\\bRandom\\b", "static\\s*\\{", "\\bvar\\b", "\\[\\]\\[\\]", "\" \\+", "\\+ \""};
        for (String sign : ruledOut) {
            checks.due("it holds " + sign, Pattern.compile(sign).matcher(text).find(), false);
        }
        Matcher imports = Pattern.compile("(?m)^import (.*);").matcher(text);
        while (imports.find()) {
            checks.due("import " + imports.group(1), imports.group(1).equals("java.util.NoSuchElementException"), true);
        }
        // no call makes anything: rows and objects are made by fields and constructors alone
        for (String line : text.split("\n")) {
            if (line.contains("new ")) {
                boolean field = line.matches("    (    )?(private |final )+[A-Za-z\\[\\]]+ \\w+ = new .*;");
                boolean made = line.equals("                drums[i] = new Drum();");
                boolean thrown = line.contains("throw new NoSuchElementException(");
                checks.due("made by a call: " + line.strip(), field || made || thrown, true);
            }
        }
        methodLengths(text);
    }

    private static void methodLengths(String text) {
        String[] lines = text.split("\n");
        int began = -1;
        String indent = "";
        for (int i = 0; i < lines.length; i++) {
            Matcher m = Pattern.compile("^( {4}| {8})[a-zA-Z][^;=]*\\).*\\{$").matcher(lines[i]);
            if (began < 0 && m.find() && !lines[i].contains(" class ")) {
                began = i;
                indent = m.group(1);
            } else if (began >= 0 && lines[i].equals(indent + "}")) {
                checks.due("lines of " + lines[began].strip(), i - began + 1 <= 60, true);
                began = -1;
            }
        }
    }
}
