import java.io.IOException;
import java.lang.reflect.Constructor;
import java.lang.reflect.Field;
import java.lang.reflect.Method;
import java.lang.reflect.Modifier;
import java.nio.charset.StandardCharsets;
import java.nio.file.Files;
import java.nio.file.Path;
import java.util.Set;
import java.util.TreeSet;
import java.util.regex.Pattern;

/** The public face, and the rules of LANGUAGE.md that can be seen from outside or in the source's words. */
public final class LanguageTest {
    private static final Set<String> FACE = Set.of("feed(int)", "parish()", "fault()", "told(int)", "person(int,int)",
        "debt(int,int)", "trace(int)", "count(int,int)", "pay(int,int,int)", "strew(int,int)", "net(int,boolean)",
        "hawk(int,int)", "hour(int)", "drift(int)", "undo()", "hat(int,int)", "most(int,int,int)", "kept(int)",
        "settled(int)", "toFloat(int)", "nets(int,int)", "calm(int,int)", "watch(int)", "feel(int,int,boolean)",
        "reach(int)", "write(int,int)", "tear()", "judge()", "seed(int)", "keep(int)", "goBack(int)");
    private static final Set<String> CONSTANTS = Set.of("NONE", "UNKNOWN", "OUTSIDE", "NOT", "FULL");
    private static final Set<String> LIBRARY = Set.of("System.arraycopy", "Math.min", "Math.max", "Math.abs",
        "Math.floorMod", "Integer.bitCount");

    public static void main(String[] args) throws IOException {
        face();
        constants();
        classesInside();
        source();
        Check.finish();
    }

    private static String signature(Method m) {
        StringBuilder s = new StringBuilder(m.getName()).append('(');
        for (Class<?> type : m.getParameterTypes()) {
            s.append(s.charAt(s.length() - 1) == '(' ? "" : ",").append(type.getName());
        }
        return s.append(')').toString();
    }

    private static void face() {
        Class<?> c = SparrowChange.class;
        if (!Modifier.isPublic(c.getModifiers()) || !Modifier.isFinal(c.getModifiers())) {
            Check.fail("the class is not public and final");
        }
        Constructor<?>[] made = c.getDeclaredConstructors();
        if (made.length != 1 || made[0].getParameterCount() != 0 || !Modifier.isPublic(made[0].getModifiers())) {
            Check.fail("there is another constructor than the document's");
        }
        Set<String> open = new TreeSet<>();
        Set<String> openNames = new TreeSet<>();
        for (Method m : c.getDeclaredMethods()) {
            if (!Modifier.isPrivate(m.getModifiers())) {
                open.add(signature(m));
                openNames.add(m.getName());
                if (m.getReturnType() != int.class || !Modifier.isPublic(m.getModifiers())) {
                    Check.fail(m.getName() + " is not as in the document");
                }
            }
        }
        if (!open.equals(FACE)) {
            Check.fail("the methods are " + open);
        }
        for (Class<?> inside : c.getDeclaredClasses()) {
            for (Method m : inside.getDeclaredMethods()) {
                if (openNames.contains(m.getName())) {
                    Check.fail(inside.getName() + "." + m.getName() + " has a public one's name");
                }
            }
        }
        for (Method m : c.getDeclaredMethods()) {
            if (Modifier.isPrivate(m.getModifiers()) && openNames.contains(m.getName())) {
                Check.fail("the private " + m.getName() + " has a public one's name");
            }
        }
    }

    private static void constants() {
        Check.due("NONE", SparrowChange.NONE, -1);
        Check.due("UNKNOWN", SparrowChange.UNKNOWN, -1000000001);
        Check.due("OUTSIDE", SparrowChange.OUTSIDE, -1000000002);
        Check.due("NOT", SparrowChange.NOT, -1000000003);
        Check.due("FULL", SparrowChange.FULL, -1000000004);
        for (Field f : SparrowChange.class.getDeclaredFields()) {
            boolean open = CONSTANTS.contains(f.getName());
            if (Modifier.isPrivate(f.getModifiers()) == open) {
                Check.fail(f.getName() + " is not as in the document");
            }
            if (Modifier.isStatic(f.getModifiers()) && (!Modifier.isFinal(f.getModifiers()) || f.getType() != int.class)) {
                Check.fail(f.getName() + " is no constant");
            }
        }
    }

    private static void classesInside() {
        Class<?>[] inside = SparrowChange.class.getDeclaredClasses();
        if (inside.length > 11) {
            Check.fail("too many classes");
        }
        for (Class<?> c : inside) {
            if (!Modifier.isStatic(c.getModifiers()) || Modifier.isPublic(c.getModifiers())) {
                Check.fail(c.getName() + " is not static, or public");
            }
            for (Method m : c.getDeclaredMethods()) {
                if (m.getParameterCount() > 7) {
                    Check.fail(m.getName() + " takes too much");
                }
            }
        }
    }

    private static void source() throws IOException {
        String text = Files.readString(Path.of("src/main/java/SparrowChange.java"), StandardCharsets.ISO_8859_1);
        String code = text.replaceAll("(?s)/\\*.*?\\*/", "").replaceAll("//[^\n]*", "");
        String banned = "\\b(throw|throws|try|catch|finally|synchronized|assert|package|import|import static|protected|double"
            + "|float|String|Object|var|equals|hashCode|toString|instanceof|yield)\\b|->|::|\\w+Exact\\b|\"|@";
        var found = Pattern.compile(banned).matcher(code);
        while (found.find()) {
            Check.fail("the source has '" + found.group() + "'");
        }
        var library = Pattern.compile("\\b(System|Math|Integer|Long|Arrays)\\.\\w+").matcher(code);
        while (library.find()) {
            if (!LIBRARY.contains(library.group())) {
                Check.fail("the source uses " + library.group());
            }
        }
        if (text.chars().anyMatch(c -> c > 126 || (c < 32 && c != '\n'))) {
            Check.fail("the source has a sign that is not plain");
        }
        lengths(text);
    }

    /** Methods of the class begin 4 deep, those of the classes inside 8 deep; each ends at a brace as deep as its head. */
    private static void lengths(String text) {
        String[] lines = text.split("\n");
        for (int i = 0; i < lines.length; i++) {
            if (lines[i].matches("( {4}| {8})\\w[^=;]*\\) \\{") && !lines[i].matches(" +(if|for|while|switch)\\b.*")) {
                String end = lines[i].replaceAll("\\S.*", "") + "}";
                int last = i;
                while (last < lines.length && !lines[last].equals(end)) {
                    last++;
                }
                if (last - i > 60) {
                    Check.fail("the method of line " + (i + 1) + " is long");
                }
            }
        }
    }
}
