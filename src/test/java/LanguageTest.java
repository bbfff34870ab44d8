import java.io.IOException;
import java.lang.reflect.Constructor;
import java.lang.reflect.Field;
import java.lang.reflect.Method;
import java.lang.reflect.Modifier;
import java.nio.file.Files;
import java.nio.file.Path;
import java.util.ArrayList;
import java.util.Arrays;
import java.util.Collections;
import java.util.List;
import java.util.Set;
import java.util.TreeSet;
import java.util.regex.Matcher;
import java.util.regex.Pattern;

/** The public face, and what of LANGUAGE.md can be seen from the class and its text. */
public final class LanguageTest {
    private static final String FACE = "as(int,int):int beside(boolean):int best(int,int,int):int bought(int,int):int "
        + "buyer(int,int,int,int):int carried(int):int cell(int,int,int):long cook(int,int,int):int "
        + "copy(int,int,int,int,int):int copyOut(int,int,int,int,int):int day(int):int fault():int fetch(int):int "
        + "fish(int,int):int fresh(int,int):int greet(int):int howMany(int,int,int,int,int,int,int):int lose(int):int "
        + "many(int):int mean(int,int,int,int,int,int,int,int,int):long mixed(int,int,int,int,int):long "
        + "ofBuyer(int,int):int ofSort(int,int):int put(int,int,int):int rests(int,int,int):int right(int,int,int):long "
        + "sheet(int,int,int):int slate(int,int):int sold(int,int):int soup(int):int stall(int,int,int,int):int "
        + "takeOff(int):int tell(int):int trace():int worth(int,int,int):int write(int,int,int):int";
    private static final String CONSTANTS = "FULL LOST NONE OUTSIDE STATE UNKNOWN";
    private static final String[] BANNED = {"throw", "throws", "try", "catch", "synchronized", "assert", "yield", "import",
        "static \\{", "->", "::", "instanceof", "Exact\\(", "@Override", "volatile", "transient", "native",
        "Integer\\.[A-Z]", "Long\\.(?!MIN_VALUE;)[A-Z]"};
    private static final Set<String> KNOWN = new TreeSet<>(List.of("Math", "System", "Integer", "Long"));

    private static final Checks CHECKS = new Checks();
    private static final Set<String> PUBLIC_NAMES = new TreeSet<>();

    public static void main(String[] args) throws IOException {
        face();
        privateNames(IceSlab.class);
        int classes = 0;
        for (Class<?> inner : IceSlab.class.getDeclaredClasses()) {
            classes++;
            CHECKS.due(inner + " is static", Modifier.isStatic(inner.getModifiers()) ? 1 : 0, 1);
            CHECKS.due(inner + " isn't public", inner.getModifiers() & (Modifier.PUBLIC | Modifier.PROTECTED), 0);
            privateNames(inner);
            fields(inner);
        }
        fields(IceSlab.class);
        CHECKS.due("at most twelve classes", classes <= 12 ? 1 : 0, 1);
        text(Files.readString(Path.of("src/main/java/IceSlab.java")));
        CHECKS.end("LanguageTest");
    }

    private static void face() {
        List<String> methods = new ArrayList<>();
        List<String> constants = new ArrayList<>();
        int hidden = 0;
        for (Method m : IceSlab.class.getDeclaredMethods()) {
            if (Modifier.isPublic(m.getModifiers())) {
                PUBLIC_NAMES.add(m.getName());
                String types = Arrays.toString(m.getParameterTypes()).replaceAll("[\\[\\] ]", "");
                methods.add(m.getName() + "(" + types + "):" + m.getReturnType());
            } else if (!Modifier.isPrivate(m.getModifiers())) {
                hidden++;
            }
        }
        for (Field f : IceSlab.class.getDeclaredFields()) {
            if (Modifier.isPublic(f.getModifiers())) {
                constants.add(f.getName());
            } else if (!Modifier.isPrivate(f.getModifiers())) {
                hidden++;
            }
        }
        Collections.sort(methods);
        Collections.sort(constants);
        same("methods", String.join(" ", methods), FACE);
        same("constants", String.join(" ", constants), CONSTANTS);
        CHECKS.due("members that are neither public nor private", hidden, 0);
        Constructor<?>[] made = IceSlab.class.getDeclaredConstructors();
        CHECKS.due("constructors", made.length, 1);
        CHECKS.due("its parameters", made[0].getParameterCount(), 0);
        CHECKS.due("public final", IceSlab.class.getModifiers(), Modifier.PUBLIC | Modifier.FINAL);
    }

    private static void same(String what, String got, String want) {
        if (!got.equals(want)) {
            System.out.println(what + ": " + got + "\n   due: " + want);
        }
        CHECKS.due(what + " as the document has them", got.equals(want) ? 1 : 0, 1);
    }

    private static void privateNames(Class<?> c) {
        for (Method m : c.getDeclaredMethods()) {
            if (!Modifier.isPublic(m.getModifiers()) && PUBLIC_NAMES.contains(m.getName())) {
                CHECKS.due(c + " has its own " + m.getName(), 1, 0);
            }
            boolean few = m.getParameterCount() <= 7 || m.getName().equals("mean");
            CHECKS.due(m + " takes at most seven", few ? 1 : 0, 1);
        }
    }

    private static void fields(Class<?> c) {
        int own = 0;
        for (Field f : c.getDeclaredFields()) {
            if (Modifier.isStatic(f.getModifiers())) {
                CHECKS.due(f + " is final", Modifier.isFinal(f.getModifiers()) ? 1 : 0, 1);
            } else {
                own++;
            }
        }
        CHECKS.due(c + " has at most twenty fields", own <= 20 ? 1 : 0, 1);
    }

    private static void text(String whole) {
        String code = whole.replaceAll("(?s)/\\*.*?\\*/", " ").replaceAll("//[^\n]*", " ");
        for (String banned : BANNED) {
            boolean word = Character.isLetter(banned.charAt(0)) && Character.isLetter(banned.charAt(banned.length() - 1));
            Matcher m = Pattern.compile(word ? "\\b" + banned + "\\b" : banned).matcher(code);
            CHECKS.due("'" + banned + "' in the text", m.find() ? 1 : 0, 0);
        }
        for (Class<?> inner : IceSlab.class.getDeclaredClasses()) {
            KNOWN.add(inner.getSimpleName());
        }
        Matcher library = Pattern.compile("\\b([A-Z]\\w*[a-z]\\w*)\\b").matcher(code);
        while (library.find()) {
            String name = library.group(1);
            CHECKS.due("class " + name + " is known", KNOWN.contains(name) || name.equals("IceSlab") ? 1 : 0, 1);
        }
        for (char c : whole.toCharArray()) {
            if (c > 126) {
                CHECKS.due("sign " + (int) c, 1, 0);
            }
        }
        methodLengths(code);
    }

    /** A method of the text: from a line that opens it up to the bracket that closes it at the same depth. */
    private static void methodLengths(String code) {
        String[] lines = code.split("\n");
        for (int i = 0; i < lines.length; i++) {
            Matcher head = Pattern.compile("^( {4,8})[\\w\\[\\] ]+\\([^;]*\\) \\{$").matcher(lines[i]);
            if (!head.find()) {
                continue;
            }
            int end = i;
            while (end < lines.length && !lines[end].equals(head.group(1) + "}")) {
                end++;
            }
            CHECKS.due("lines of " + lines[i].trim() + " at most 60", end - i < 60 ? 1 : 0, 1);
        }
    }
}
