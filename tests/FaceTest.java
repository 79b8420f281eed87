import java.lang.reflect.Array;
import java.lang.reflect.Constructor;
import java.lang.reflect.Field;
import java.lang.reflect.Method;
import java.lang.reflect.Modifier;
import java.nio.file.Files;
import java.nio.file.Path;
import java.util.ArrayList;
import java.util.Arrays;
import java.util.HashSet;
import java.util.IdentityHashMap;
import java.util.List;
import java.util.Map;
import java.util.Set;
import java.util.TreeSet;
import java.util.regex.Matcher;
import java.util.regex.Pattern;

/** The document's face, and those rules of LANGUAGE.md that can be looked up in the class and in its text. */
public final class FaceTest {
    private static final String[] FACE = {"int feed(int, int, int, int, int)", "int mill(int)", "int fault()", "int where()",
        "boolean set(int, int, int)", "boolean mend(int, boolean)", "int go(int)", "int tons(int, int)", "int state(int)",
        "boolean program(int, int, int, int)", "int seen(int, int, int, int)", "int forget()", "int fits()",
        "int fitAt(int, int)", "int certain(int)", "int guess(int, int, int, int, int)", "int swapped()", "int plan(int)",
        "int rate(int)", "int rule(int)", "int lacks(int)", "int number(boolean, int)", "int chance()", "int splits()",
        "int clear()", "int marks(int, int, int, int, int, int)", "int led(int)", "int size(int)", "int trouble()"};

    private static final Checks checks = new Checks();

    public static void main(String[] args) throws Exception {
        String text = withoutComments(Files.readString(Path.of("src/main/java/RoarMill.java")));
        theFace();
        theFaceOfTheDocument(text);
        theClassesInside();
        theText(text);
        theRoom();
        checks.finish();
    }

    private static String told(Method m) {
        List<String> types = new ArrayList<>();
        for (Class<?> c : m.getParameterTypes()) {
            types.add(c.getName());
        }
        return m.getReturnType().getName() + " " + m.getName() + "(" + String.join(", ", types) + ")";
    }

    private static void theFace() throws Exception {
        checks.in("the face");
        Set<String> open = new TreeSet<>();
        Set<String> closed = new HashSet<>();
        for (Method m : RoarMill.class.getDeclaredMethods()) {
            if (Modifier.isPrivate(m.getModifiers())) {
                closed.add(m.getName());
            } else {
                open.add(told(m));
                checks.due(m.getName() + " is public", Modifier.isPublic(m.getModifiers()), true);
                checks.due(m.getName() + " is of an object", Modifier.isStatic(m.getModifiers()), false);
                checks.due(m.getName() + " throws", m.getExceptionTypes().length, m.getName().equals("led") ? 1 : 0);
            }
        }
        checks.due("its calls are those of the document", open.equals(new TreeSet<>(Arrays.asList(FACE))), true);
        for (String call : FACE) {
            String name = call.replaceAll(".* |\\(.*", "");
            checks.due("a private method bears the name " + name, closed.contains(name), false);
        }
        for (Field f : RoarMill.class.getDeclaredFields()) {
            checks.due(f.getName() + " is private", Modifier.isPrivate(f.getModifiers()), !f.getName().equals("NONE"));
        }
        checks.due("NONE", RoarMill.class.getField("NONE").getInt(null), -1);
        Constructor<?>[] made = RoarMill.class.getDeclaredConstructors();
        checks.due("constructors", made.length, 1);
        checks.due("it is public", Modifier.isPublic(made[0].getModifiers()), true);
        checks.due("the class is final", Modifier.isFinal(RoarMill.class.getModifiers()), true);
    }

    /** Word for word: the document's block of Java, and the call at the head of each promise. */
    private static void theFaceOfTheDocument(String text) throws Exception {
        Path place = Path.of("../shared/DOC.md");
        if (!Files.exists(place)) {
            return;
        }
        checks.in("the document's face");
        String document = Files.readString(place);
        Matcher block = Pattern.compile("(?s)```java\n(.*?)```").matcher(document);
        checks.due("there is a block of Java", block.find(), true);
        int calls = 0;
        for (String line : block.group(1).split("\n")) {
            String told = line.strip();
            boolean call = told.endsWith(";") && told.contains("(");
            calls += call ? 1 : 0;
            checks.due(told, text.contains(call ? told.replace(";", " {") : told), true);
        }
        checks.due("the constructor and the calls", calls, FACE.length + 1);
        Matcher promises = Pattern.compile("(?m)^## Promise \\d+: .*\n\n`([^`]*)`: ").matcher(document);
        int found = 0;
        while (promises.find()) {
            found++;
            checks.due(promises.group(1), text.contains("    public " + promises.group(1) + " {"), true);
        }
        checks.due("promises that begin with a call", found, FACE.length + 1);
    }

    private static void theClassesInside() {
        Class<?>[] inside = RoarMill.class.getDeclaredClasses();
        checks.due("classes", inside.length + 1 <= 12, true);
        for (Class<?> c : inside) {
            checks.in(c.getName());
            checks.due("is static", Modifier.isStatic(c.getModifiers()), true);
            checks.due("is public", Modifier.isPublic(c.getModifiers()), false);
            fields(c);
        }
        checks.in("RoarMill");
        fields(RoarMill.class);
    }

    private static void fields(Class<?> c) {
        int own = 0;
        for (Field f : c.getDeclaredFields()) {
            boolean constant = Modifier.isStatic(f.getModifiers());
            own += constant ? 0 : 1;
            checks.due(f.getName() + " is final if it is static", !constant || Modifier.isFinal(f.getModifiers()), true);
        }
        checks.due("fields, some twenty", own <= 20, true);
        for (Method m : c.getDeclaredMethods()) {
            checks.due(m.getName() + " takes at most seven", m.getParameterCount() <= 7, true);
        }
    }

    private static String withoutComments(String text) {
        return text.replaceAll("(?s)/\\*.*?\\*/", "").replaceAll("//[^\n]*", "");
    }

    private static void theText(String text) {
        checks.in("the text");
        String[] ruledOut = {"->", "::", "\\bcatch\\b", "\\btry\\b", "\\bfinally\\b", "\\bsynchronized\\b", "\\bassert\\b",
            "\\bprotected\\b", "\\bpackage\\b", "Exact\\(", "\\bdouble\\b", "\\bfloat\\b", "\\bSystem\\.(?!arraycopy)",
            "\\bThread\\b", "\\bRandom\\b", "static\\s*\\{", "\\bvar\\b", "\\[\\]\\[\\]", "\" \\+", "\\+ \""};
        for (String sign : ruledOut) {
            checks.due("it holds " + sign, Pattern.compile(sign).matcher(text).find(), false);
        }
        Matcher imports = Pattern.compile("(?m)^import (.*);").matcher(text);
        while (imports.find()) {
            checks.due("import " + imports.group(1), imports.group(1).equals("java.util.NoSuchElementException"), true);
        }
        // no call makes anything: rows and objects are made by fields and constructors alone
        for (String line : text.split("\n")) {
            if (line.contains("new ")) {
                boolean field = line.matches("    (    )?(private |final )+[A-Za-z\\[\\]]+ \\w+ = new .*;");
                boolean made = line.equals("                drums[i] = new Drum();");
                boolean thrown = line.contains("throw new NoSuchElementException(");
                checks.due("made by a call: " + line.strip(), field || made || thrown, true);
            }
        }
        methodLengths(text);
    }

    /** All is made with the object, and calls make no more: so 512 of them take the room of one object. */
    private static void theRoom() throws Exception {
        checks.in("the room");
        RoarMill x = new RoarMill();
        long[] first = roomOf(x);
        checks.due("objects and arrays: " + first[0], first[0] <= 150, true);
        checks.due("fields and elements: " + first[1], first[1] <= 12000, true);
        String text = Texts.with("drum room 100 loud 80", "size a breaks 50 next 100", "size b", "bin 50 draws 5");
        Checks.mill(x, text);
        x.go(24);
        x.seen(0, 2, 3, 0);
        x.fits();
        x.swapped();
        x.plan(5);
        x.rule(5);
        for (int i = 0; i < 16; i++) {
            x.number(i % 2 == 0, i);
        }
        x.chance();
        x.marks(3, 4, 4, 0, 0, 11);
        checks.due("as many objects after a run", roomOf(x)[0], first[0]);
        checks.due("as many elements after a run", roomOf(x)[1], first[1]);
    }

    private static long[] roomOf(Object first) throws Exception {
        Map<Object, Boolean> met = new IdentityHashMap<>();
        List<Object> left = new ArrayList<>(List.of(first));
        long elements = 0;
        while (!left.isEmpty()) {
            Object o = left.remove(left.size() - 1);
            if (o == null || met.put(o, true) != null) {
                continue;
            }
            if (o.getClass().isArray()) {
                elements += Array.getLength(o);
                left.addAll(o instanceof Object[] row ? Arrays.asList(row) : List.of());
                continue;
            }
            for (Field f : o.getClass().getDeclaredFields()) {
                if (!Modifier.isStatic(f.getModifiers())) {
                    elements++;
                    f.setAccessible(true);
                    left.addAll(f.getType().isPrimitive() ? List.of() : Arrays.asList(f.get(o)));
                }
            }
        }
        return new long[] {met.size(), elements};
    }

    private static void methodLengths(String text) {
        String[] lines = text.split("\n");
        int began = -1;
        String indent = "";
        for (int i = 0; i < lines.length; i++) {
            Matcher m = Pattern.compile("^( {4}| {8})[a-zA-Z][^;=]*\\).*\\{$").matcher(lines[i]);
            if (began < 0 && m.find() && !lines[i].contains(" class ")) {
                began = i;
                indent = m.group(1);
            } else if (began >= 0 && lines[i].equals(indent + "}")) {
                checks.due("lines of " + lines[began].strip(), i - began + 1 <= 60, true);
                began = -1;
            }
        }
    }
}
