import java.io.IOException;
import java.lang.reflect.Constructor;
import java.lang.reflect.Field;
import java.lang.reflect.Method;
import java.lang.reflect.Modifier;
import java.nio.file.Files;
import java.nio.file.Path;
import java.util.Set;
import java.util.TreeSet;
import java.util.regex.Matcher;
import java.util.regex.Pattern;

/** The face of the class, and what of ../shared/LANGUAGE.md can be seen in its text. Runs in the project's folder. */
public final class LanguageTest {
    private static final Check CHECK = new Check("LanguageTest");
    private static final Set<String> FACE = Set.of("buy/2", "set/2", "borrow/2", "bringBack/2", "hour/2", "load/3",
        "unload/3", "toWorkshop/1", "mend/1", "level/0", "take/1", "restore/1", "undo/0", "append/1", "clearText/0",
        "carryOut/0", "count/1", "umbrella/2", "stand/2", "person/2", "inVan/2", "feeIn/3", "breaksIn/3",
        "emptied/0", "shortest/1");

    private static final Set<String> LIBRARY = Set.of("Math.max", "Math.min", "Arrays.fill", "System.arraycopy");
    private static final int MOST_LINES = 60;

    public static void main(String[] args) throws IOException {
        face();
        classesInside();
        String source = Files.readString(Path.of("src/main/java/RibbedLoans.java"));
        CHECK.holds("signs 1 to 127 alone", source.chars().allMatch(sign -> sign > 0 && sign < 128));
        String code = source.replaceAll("(?s)/\\*.*?\\*/", " ").replaceAll("//[^\n]*", " ");
        noForbiddenWords(code);
        library(code);
        shortMethods(source);
        CHECK.end();
    }

    private static void face() {
        CHECK.holds("the class is public and final",
            Modifier.isPublic(RibbedLoans.class.getModifiers()) && Modifier.isFinal(RibbedLoans.class.getModifiers()));
        Set<String> found = new TreeSet<>();
        Set<String> names = new TreeSet<>();
        for (Method method : RibbedLoans.class.getDeclaredMethods()) {
            if (Modifier.isPrivate(method.getModifiers())) {
                names.add(method.getName());
            } else {
                found.add(method.getName() + "/" + method.getParameterCount());
                CHECK.holds(method.getName() + " is public and answers int", method.getReturnType() == int.class
                    && Modifier.isPublic(method.getModifiers()) && !Modifier.isStatic(method.getModifiers()));
            }
        }
        CHECK.holds("the methods are the face's: " + found, found.equals(FACE));
        for (String one : FACE) {
            CHECK.holds("no private " + one, !names.contains(one.substring(0, one.indexOf('/'))));
        }
        Constructor<?>[] constructors = RibbedLoans.class.getDeclaredConstructors();
        CHECK.holds("one public constructor", constructors.length == 1
            && constructors[0].getParameterCount() == 0 && Modifier.isPublic(constructors[0].getModifiers()));
        Set<String> constants = new TreeSet<>();
        for (Field field : RibbedLoans.class.getDeclaredFields()) {
            CHECK.holds(field + " is final", Modifier.isFinal(field.getModifiers()));
            if (!Modifier.isPrivate(field.getModifiers())) {
                constants.add(field.getName());
            }
        }
        CHECK.holds("the constants are the face's: " + constants,
            constants.equals(Set.of("INVALID_ARGUMENT", "ILLEGAL_STATE", "CAPACITY_EXCEEDED", "NONE")));
        CHECK.due("INVALID_ARGUMENT", RibbedLoans.INVALID_ARGUMENT, -1);
        CHECK.due("ILLEGAL_STATE", RibbedLoans.ILLEGAL_STATE, -2);
        CHECK.due("CAPACITY_EXCEEDED", RibbedLoans.CAPACITY_EXCEEDED, -3);
        CHECK.due("NONE", RibbedLoans.NONE, -9);
    }

    private static void classesInside() {
        Class<?>[] inside = RibbedLoans.class.getDeclaredClasses();
        CHECK.holds("at most twelve classes", inside.length < 12);
        for (Class<?> one : inside) {
            CHECK.holds(one + " is static and not public",
                Modifier.isStatic(one.getModifiers()) && !Modifier.isPublic(one.getModifiers()));
            int fields = 0;
            for (Field field : one.getDeclaredFields()) {
                fields += Modifier.isStatic(field.getModifiers()) ? 0 : 1;
                CHECK.holds(field + " is no changing static one",
                    Modifier.isFinal(field.getModifiers()) || !Modifier.isStatic(field.getModifiers()));
            }
            CHECK.holds(one + " has few fields", fields <= 20);
            for (Method method : one.getDeclaredMethods()) {
                CHECK.holds(method + " has few parameters", method.getParameterCount() <= 7);
                CHECK.holds(method + " bears no name of its own", !method.getName().equals("equals")
                    && !method.getName().equals("hashCode") && !method.getName().equals("toString"));
            }
        }
    }

    private static void noForbiddenWords(String code) {
        String[] banned = {"\\bthrow\\b", "\\btry\\b", "\\bcatch\\b", "\\bsynchronized\\b", "\\bassert\\b", "->", "::",
            "\\bpackage\\b", "\\bvar\\b", "\\bprotected\\b", "\\bObject\\b", "\\bSystem\\.(?!arraycopy\\b)",
            "\\bThread\\b", "\\bRandom\\b", "Exact\\b", "\\bstatic\\s*\\{", "\\bwhile\\s*\\(true\\)", "for\\s*\\(;;\\)",
            "@\\w", "\\binstanceof\\b", "\"", "\\bfloat\\b", "\\bdouble\\b"};
        for (String pattern : banned) {
            CHECK.holds("no " + pattern, !Pattern.compile(pattern).matcher(code).find());
        }
    }

    /** The class needs these alone of the library. */
    private static void library(String code) {
        CHECK.holds("imports Arrays alone", code.replace("import java.util.Arrays;", "").indexOf("import ") < 0);
        String names = "\\b(?:Math|Arrays|System|Integer|Long|String|StringBuilder|List|ArrayList)\\b(?:\\.\\w+)?";
        Matcher used = Pattern.compile(names).matcher(code.replace("import java.util.Arrays;", ""));
        while (used.find()) {
            CHECK.holds(used.group() + " may be used", LIBRARY.contains(used.group()));
        }
    }

    private static void shortMethods(String source) {
        String[] lines = source.split("\n");
        for (int i = 0; i < lines.length; i++) {
            if (lines[i].matches("( {4}| {8})(?!.*\\bclass\\b)\\w.*\\) \\{")) {
                String end = lines[i].substring(0, lines[i].length() - lines[i].stripLeading().length()) + "}";
                int last = i;
                while (last < lines.length && !lines[last].equals(end)) {
                    last++;
                }
                CHECK.holds("is short:" + lines[i], last - i < MOST_LINES);
            }
        }
    }
}
