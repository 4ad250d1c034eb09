import java.io.IOException;
import java.lang.reflect.Array;
import java.lang.reflect.Constructor;
import java.lang.reflect.Field;
import java.lang.reflect.Method;
import java.lang.reflect.Modifier;
import java.nio.file.Files;
import java.nio.file.Path;
import java.util.Collections;
import java.util.IdentityHashMap;
import java.util.Set;
import java.util.TreeSet;
import java.util.regex.Matcher;
import java.util.regex.Pattern;

/** The face of the class, and the rules of LANGUAGE.md as far as they can be read off the class and its source. */
public final class LanguageTest {
    private static final String SOURCE = "src/main/java/TomorrowBells.java";
    private static final String[] FACE = {
        "feed(int)", "town()", "fault()", "told(int)", "bell(int,int)", "group(int,int)", "harm(int)",
        "ring(int)", "done(int,int)", "comes(int)", "could(int)", "sure(int)", "live(int)", "undo(int)",
        "yesterday(int)", "deaf(int,boolean)", "may(int)", "drift(int)", "rule(int,int)", "hush(int,int)",
        "run(int,int)", "takes(int)", "wire(int,int)", "answers(int)", "send(int,int)",
        "see(int,boolean,int,int)", "means(int,int)", "watch(int)", "tear()", "seed(int)", "keep(int)", "goBack(int)"
    };

    public static void main(String[] args) throws IOException, IllegalAccessException {
        constants();
        face();
        nested();
        source();
        room();
        Rules.check(SOURCE);
        Due.end();
    }

    private static void constants() {
        Due.is("NONE", TomorrowBells.NONE, -1);
        Due.is("UNKNOWN", TomorrowBells.UNKNOWN, -1000000001);
        Due.is("OUTSIDE", TomorrowBells.OUTSIDE, -1000000002);
        Due.is("NOT", TomorrowBells.NOT, -1000000003);
        Due.is("FULL", TomorrowBells.FULL, -1000000004);
    }

    private static void face() {
        Set<String> due = new TreeSet<>(Set.of(FACE));
        Set<String> publicNames = new TreeSet<>();
        Set<String> found = new TreeSet<>();
        for (Method m : TomorrowBells.class.getDeclaredMethods()) {
            if (!Modifier.isPrivate(m.getModifiers()) && !m.isSynthetic()) {
                String full = m.toString();
                found.add(m.getName() + full.substring(full.indexOf('(')));
                publicNames.add(m.getName());
                Due.holds(full + " is public, not static, of int",
                    Modifier.isPublic(m.getModifiers()) && !Modifier.isStatic(m.getModifiers())
                        && m.getReturnType() == int.class);
            }
        }
        Due.holds("the face is " + due + ", not " + found, due.equals(found));
        for (Class<?> c : TomorrowBells.class.getDeclaredClasses()) {
            privateNames(c, publicNames);
        }
        privateNames(TomorrowBells.class, publicNames);
        Due.is("constructors", TomorrowBells.class.getDeclaredConstructors().length, 1);
        for (Constructor<?> c : TomorrowBells.class.getDeclaredConstructors()) {
            Due.holds("a public constructor of nothing", Modifier.isPublic(c.getModifiers()) && c.getParameterCount() == 0);
        }
        Due.holds("public final class", Modifier.isPublic(TomorrowBells.class.getModifiers())
            && Modifier.isFinal(TomorrowBells.class.getModifiers()));
    }

    private static void privateNames(Class<?> c, Set<String> publicNames) {
        for (Method m : c.getDeclaredMethods()) {
            if (c != TomorrowBells.class || Modifier.isPrivate(m.getModifiers())) {
                Due.holds(c + "." + m.getName() + " does not bear a public name", !publicNames.contains(m.getName()));
            }
            Due.holds(m + " has at most seven parameters", m.getParameterCount() <= 7);
        }
    }

    private static void nested() {
        Set<String> constants = Set.of("NONE", "UNKNOWN", "OUTSIDE", "NOT", "FULL");
        for (Field f : TomorrowBells.class.getDeclaredFields()) {
            boolean open = !Modifier.isPrivate(f.getModifiers());
            Due.holds(f + " is private or a constant of the face", !open || constants.contains(f.getName()));
            if (Modifier.isStatic(f.getModifiers())) {
                Due.holds(f + " is final", Modifier.isFinal(f.getModifiers()));
            }
        }
        int classes = 1;
        for (Class<?> c : TomorrowBells.class.getDeclaredClasses()) {
            classes++;
            Due.holds(c + " is static", Modifier.isStatic(c.getModifiers()));
            Due.holds(c + " has at most twenty fields", c.getDeclaredFields().length <= 20);
        }
        Due.holds("at most twelve classes", classes <= 12);
    }

    private static void source() throws IOException {
        String text = Files.readString(Path.of(SOURCE));
        Matcher imports = Pattern.compile("(?m)^import ([^;]+);").matcher(text);
        while (imports.find()) {
            Due.holds("import of " + imports.group(1), imports.group(1).equals("java.util.Arrays"));
        }
        for (int i = 0; i < text.length(); i++) {
            if (text.charAt(i) > 126) {
                Due.is("a sign of the source", text.charAt(i), '?');
            }
        }
    }

    /** All objects of a run live in one room: what an object holds is counted, and no call adds to it (Rules sees to that). */
    private static void room() throws IllegalAccessException {
        Set<Object> met = Collections.newSetFromMap(new IdentityHashMap<>());
        int size = sizeOf(new TomorrowBells(), met);
        Due.holds("rule 12: an object is some 70 objects and rows, not " + met.size(), met.size() <= 70);
        Due.holds("rule 12: and some 1,600 fields and elements, not " + size, size <= 1600);
    }

    private static int sizeOf(Object held, Set<Object> met) throws IllegalAccessException {
        if (held == null || !met.add(held)) {
            return 0;
        }
        int size = 0;
        if (held.getClass().isArray()) {
            int length = Array.getLength(held);
            for (int i = 0; i < length && held instanceof Object[]; i++) {
                size += sizeOf(Array.get(held, i), met);
            }
            return size + length;
        }
        for (Field f : held.getClass().getDeclaredFields()) {
            if (!Modifier.isStatic(f.getModifiers())) {
                f.setAccessible(true);
                size += 1 + (f.getType().isPrimitive() ? 0 : sizeOf(f.get(held), met));
            }
        }
        return size;
    }
}
