import java.io.IOException;
import java.lang.reflect.Field;
import java.lang.reflect.Method;
import java.lang.reflect.Modifier;
import java.nio.file.Files;
import java.nio.file.Path;
import java.util.ArrayList;
import java.util.HashSet;
import java.util.List;
import java.util.Set;
import java.util.regex.Matcher;
import java.util.regex.Pattern;

/** Those rules of LANGUAGE.md that can be seen from the file's words and the shape of its classes. */
public final class LanguageTest {
    private static final Pattern COMMENT = Pattern.compile("/\\*.*?\\*/|//[^\n]*", Pattern.DOTALL);
    private static final Pattern IMPORT = Pattern.compile("import ([^;]*);");
    private static final Pattern LIBRARY = Pattern.compile("\\b(Arrays|Long|Integer|Math|System)\\.(\\w+)");
    private static final Set<String> LIBRARY_CALLS = Set.of("Arrays.fill", "Arrays.copyOf", "Arrays.copyOfRange",
            "System.arraycopy", "Math.abs", "Math.max", "Math.min", "Long.bitCount",
            "Long.numberOfTrailingZeros", "Long.numberOfLeadingZeros");
    private static final String[] REFUSED = {"package", "throw", "throws", "try", "catch", "synchronized", "assert",
        "protected", "Object", "float", "double", "equals", "hashCode", "toString", "Thread", "Random", "->", "::"};
    private static int wrong = 0;

    public static void main(String[] args) throws IOException {
        String code = COMMENT.matcher(Files.readString(Path.of("src/main/java/RuleKernels.java"))).replaceAll("");
        words(code);
        library(code);
        methodLengths(code);
        shapes();
        System.out.println(wrong == 0 ? "the rules that can be seen are kept" : wrong + " rules are not kept");
        if (wrong != 0) {
            System.exit(1);
        }
    }

    private static void words(String code) {
        for (String word : REFUSED) {
            boolean isSign = !Character.isLetter(word.charAt(0));
            String pattern = isSign ? Pattern.quote(word) : "\\b" + word + "\\b";
            check(!Pattern.compile(pattern).matcher(code).find(), "refused: " + word);
        }
        check(!code.contains("while (true)") && !code.contains("for (;;)"), "rule 9: a loop without an end");
    }

    private static void library(String code) {
        Matcher imports = IMPORT.matcher(code);
        while (imports.find()) {
            check(imports.group(1).equals("java.util.Arrays"), "rule 4: import of " + imports.group(1));
        }
        Matcher calls = LIBRARY.matcher(code);
        while (calls.find()) {
            check(LIBRARY_CALLS.contains(calls.group()), "rule 4: " + calls.group());
        }
    }

    /** A method's lines are those between the brace that opens it and the one as far to the left. */
    private static void methodLengths(String code) {
        String[] lines = code.split("\n");
        for (int i = 0; i < lines.length; i++) {
            if (lines[i].matches(" {4}( {4})?[\\w ].*\\) \\{") && !lines[i].startsWith("            ")) {
                String close = lines[i].substring(0, lines[i].length() - lines[i].stripLeading().length()) + "}";
                int end = i;
                while (end < lines.length && !lines[end].equals(close)) {
                    end++;
                }
                check(end - i <= 60, "rule 11: sixty lines: " + lines[i].strip());
            }
        }
    }

    private static void shapes() {
        List<Class<?>> classes = new ArrayList<>(List.of(RuleKernels.class.getDeclaredClasses()));
        for (Class<?> inside : classes) {
            int how = inside.getModifiers();
            check(Modifier.isStatic(how), "rule 2: not static: " + inside);
            check(!Modifier.isPublic(how) && !Modifier.isProtected(how), "rule 1: shown: " + inside);
            check(inside.getDeclaredClasses().length == 0, "classes inside classes: " + inside);
        }
        classes.add(RuleKernels.class);
        check(classes.size() <= 12, "rule 11: twelve classes");
        Set<String> face = new HashSet<>();
        for (Method method : RuleKernels.class.getDeclaredMethods()) {
            if (Modifier.isPublic(method.getModifiers())) {
                face.add(method.getName());
            }
        }
        for (Class<?> each : classes) {
            fields(each);
            methods(each, face);
        }
    }

    private static void fields(Class<?> each) {
        int own = 0;
        for (Field field : each.getDeclaredFields()) {
            boolean isStatic = Modifier.isStatic(field.getModifiers());
            check(!isStatic || Modifier.isFinal(field.getModifiers()), "rule 5: static and not final: " + field);
            check(!isStatic || field.getType().isPrimitive(), "rule 5: a constant that is no number: " + field);
            own += isStatic ? 0 : 1;
        }
        check(own <= 20, "rule 11: twenty fields: " + each);
    }

    private static void methods(Class<?> each, Set<String> face) {
        for (Method method : each.getDeclaredMethods()) {
            check(method.getParameterCount() <= 7, "rule 11: seven parameters: " + method);
            boolean isOfFace = each == RuleKernels.class && Modifier.isPublic(method.getModifiers());
            check(isOfFace || !face.contains(method.getName()), "rule 1: bears a public name: " + method);
        }
    }

    private static void check(boolean holds, String what) {
        if (!holds) {
            wrong++;
            System.out.println(what);
        }
    }
}
