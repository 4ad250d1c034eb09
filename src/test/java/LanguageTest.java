import java.io.IOException;
import java.lang.reflect.Constructor;
import java.lang.reflect.Field;
import java.lang.reflect.Method;
import java.lang.reflect.Modifier;
import java.nio.file.Files;
import java.nio.file.Path;
import java.util.Set;
import java.util.TreeSet;
import java.util.regex.Matcher;
import java.util.regex.Pattern;

/** The face of the class, and those rules of LANGUAGE.md that can be read off the source by simple means. */
public final class LanguageTest {
    private static final String[] FACE = {
        "feed(int)", "town()", "fault()", "told(int)", "bell(int,int)", "group(int,int)", "harm(int)",
        "ring(int)", "done(int,int)", "comes(int)", "could(int)", "sure(int)", "live(int)", "undo(int)",
        "yesterday(int)", "deaf(int,boolean)", "may(int)", "drift(int)", "rule(int,int)", "hush(int,int)",
        "run(int,int)", "takes(int)", "wire(int,int)", "answers(int)", "send(int,int)",
        "see(int,boolean,int,int)", "means(int,int)", "watch(int)", "tear()", "seed(int)", "keep(int)", "goBack(int)"
    };
    private static final String[] FORBIDDEN = {
        "throw", "try", "catch", "synchronized", "assert", "protected", "System\\.out", "->", "::", "Exact\\b",
        "hashCode", "toString", "Object", "Random", "Thread"
    };

    public static void main(String[] args) throws IOException {
        constants();
        face();
        nested();
        source();
        Due.end();
    }

    private static void constants() {
        Due.is("NONE", TomorrowBells.NONE, -1);
        Due.is("UNKNOWN", TomorrowBells.UNKNOWN, -1000000001);
        Due.is("OUTSIDE", TomorrowBells.OUTSIDE, -1000000002);
        Due.is("NOT", TomorrowBells.NOT, -1000000003);
        Due.is("FULL", TomorrowBells.FULL, -1000000004);
    }

    private static void face() {
        Set<String> due = new TreeSet<>(Set.of(FACE));
        Set<String> publicNames = new TreeSet<>();
        Set<String> found = new TreeSet<>();
        for (Method m : TomorrowBells.class.getDeclaredMethods()) {
            if (!Modifier.isPrivate(m.getModifiers()) && !m.isSynthetic()) {
                String full = m.toString();
                found.add(m.getName() + full.substring(full.indexOf('(')));
                publicNames.add(m.getName());
                Due.holds(full + " is public, not static, of int",
                    Modifier.isPublic(m.getModifiers()) && !Modifier.isStatic(m.getModifiers())
                        && m.getReturnType() == int.class);
            }
        }
        Due.holds("the face is " + due + ", not " + found, due.equals(found));
        for (Class<?> c : TomorrowBells.class.getDeclaredClasses()) {
            privateNames(c, publicNames);
        }
        privateNames(TomorrowBells.class, publicNames);
        Due.is("constructors", TomorrowBells.class.getDeclaredConstructors().length, 1);
        for (Constructor<?> c : TomorrowBells.class.getDeclaredConstructors()) {
            Due.holds("a public constructor of nothing", Modifier.isPublic(c.getModifiers()) && c.getParameterCount() == 0);
        }
        Due.holds("public final class", Modifier.isPublic(TomorrowBells.class.getModifiers())
            && Modifier.isFinal(TomorrowBells.class.getModifiers()));
    }

    private static void privateNames(Class<?> c, Set<String> publicNames) {
        for (Method m : c.getDeclaredMethods()) {
            if (c != TomorrowBells.class || Modifier.isPrivate(m.getModifiers())) {
                Due.holds(c + "." + m.getName() + " does not bear a public name", !publicNames.contains(m.getName()));
            }
            Due.holds(m + " has at most seven parameters", m.getParameterCount() <= 7);
        }
    }

    private static void nested() {
        Set<String> constants = Set.of("NONE", "UNKNOWN", "OUTSIDE", "NOT", "FULL");
        for (Field f : TomorrowBells.class.getDeclaredFields()) {
            boolean open = !Modifier.isPrivate(f.getModifiers());
            Due.holds(f + " is private or a constant of the face", !open || constants.contains(f.getName()));
            if (Modifier.isStatic(f.getModifiers())) {
                Due.holds(f + " is final", Modifier.isFinal(f.getModifiers()));
            }
        }
        int classes = 1;
        for (Class<?> c : TomorrowBells.class.getDeclaredClasses()) {
            classes++;
            Due.holds(c + " is static", Modifier.isStatic(c.getModifiers()));
            Due.holds(c + " has at most twenty fields", c.getDeclaredFields().length <= 20);
        }
        Due.holds("at most twelve classes", classes <= 12);
    }

    private static void source() throws IOException {
        String text = Files.readString(Path.of("src/main/java/TomorrowBells.java"));
        String code = text.replaceAll("(?s)/\\*.*?\\*/", "").replaceAll("//[^\n]*", "");
        for (String word : FORBIDDEN) {
            String edge = Character.isLetter(word.charAt(0)) ? "\\b" : "";
            Matcher m = Pattern.compile(edge + word + (edge.isEmpty() || word.endsWith("b") ? "" : "\\b")).matcher(code);
            Due.holds("no " + word + " in the source", !m.find());
        }
        Matcher imports = Pattern.compile("import ([\\w.*]+);").matcher(code);
        while (imports.find()) {
            Due.holds("import of " + imports.group(1), imports.group(1).equals("java.util.Arrays"));
        }
        Due.holds("no package line", !code.contains("package "));
        for (int i = 0; i < text.length(); i++) {
            if (text.charAt(i) > 126) {
                Due.is("a sign of the source", text.charAt(i), '?');
            }
        }
    }
}
