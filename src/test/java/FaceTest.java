import java.lang.reflect.Constructor;
import java.lang.reflect.Field;
import java.lang.reflect.Method;
import java.lang.reflect.Modifier;
import java.util.Set;
import java.util.TreeSet;

/** The class shows the document's face and nothing else. */
public final class FaceTest {
    private static int wrong = 0;

    public static void main(String[] args) {
        Set<String> shown = new TreeSet<>();
        for (Constructor<?> each : RuleKernels.class.getDeclaredConstructors()) {
            addIfShown(shown, each.getModifiers(), each.toString());
        }
        for (Method each : RuleKernels.class.getDeclaredMethods()) {
            addIfShown(shown, each.getModifiers(), each.toString());
        }
        for (Field each : RuleKernels.class.getDeclaredFields()) {
            addIfShown(shown, each.getModifiers(), each.toString());
        }
        Set<String> wanted = new TreeSet<>(Set.of(
                "public RuleKernels(int,int)",
                "public int RuleKernels.rule(int,long)",
                "public boolean RuleKernels.into(int,int,long)",
                "public boolean RuleKernels.table(int,int,int)",
                "public boolean RuleKernels.take(int,int)",
                "public boolean RuleKernels.set(int,int)",
                "public int RuleKernels.run()",
                "public long RuleKernels.candidates(int)",
                "public int RuleKernels.reason(int,int,int)",
                "public int RuleKernels.mark()",
                "public boolean RuleKernels.back(int)",
                "public int RuleKernels.woken()",
                "public int RuleKernels.order(int)"));
        check("members that are not private", shown.toString(), wanted.toString());
        check("class", Modifier.toString(RuleKernels.class.getModifiers()), "public final");
        System.out.println(wrong == 0 ? "the face is as due" : wrong + " parts of the face are not as due");
        if (wrong != 0) {
            System.exit(1);
        }
    }

    private static void addIfShown(Set<String> shown, int modifiers, String text) {
        if (!Modifier.isPrivate(modifiers)) {
            shown.add(text);
        }
    }

    private static void check(String what, String got, String want) {
        if (!got.equals(want)) {
            wrong++;
            System.out.println(what + ": " + got + ", due is " + want);
        }
    }
}
