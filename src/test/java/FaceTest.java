import java.io.IOException;
import java.lang.reflect.Constructor;
import java.lang.reflect.Field;
import java.lang.reflect.Method;
import java.lang.reflect.Modifier;
import java.nio.file.Files;
import java.nio.file.Path;
import java.util.Arrays;
import java.util.Set;
import java.util.TreeSet;

/** The public face, and the rules of LANGUAGE.md that can be read off the class and its text. */
public final class FaceTest {
    private static final String INT = "int ";
    private static final Set<String> FACE = new TreeSet<>(Arrays.asList(
            "boolean owner 2", "boolean share 5", INT + "begin 2", "boolean stop 1", "boolean use 2",
            "boolean floor 1", INT + "hours 1", INT + "look 1", INT + "machine 2", INT + "cost 2",
            INT + "season 3", INT + "creeps 1", INT + "cry 2", INT + "laid 3", "boolean budget 4",
            INT + "budgeted 2"));

    public static void main(String[] args) throws IOException {
        Due due = new Due();
        theClass(due);
        theMethods(due);
        theFields(due);
        theClassesInside(due);
        theText(due);
        due.end();
    }

    private static void theClass(Due due) {
        int flags = BillWatch.class.getModifiers();
        due.yes("the class is public and final", Modifier.isPublic(flags) && Modifier.isFinal(flags));
        Constructor<?>[] made = BillWatch.class.getDeclaredConstructors();
        due.is("constructors", made.length, 1);
        due.yes("a public one", Modifier.isPublic(made[0].getModifiers()));
        due.is("its parameters", made[0].getParameterCount(), 0);
        due.is("NONE", BillWatch.NONE, -1);
    }

    private static void theMethods(Due due) {
        Set<String> seen = new TreeSet<>();
        Set<String> names = new TreeSet<>();
        for (Method m : BillWatch.class.getDeclaredMethods()) {
            if (Modifier.isPublic(m.getModifiers())) {
                seen.add(m.getReturnType() + " " + m.getName() + " " + m.getParameterCount());
                names.add(m.getName());
                for (Class<?> type : m.getParameterTypes()) {
                    due.yes(m + " takes ints", type == int.class);
                }
            }
        }
        due.yes("the public methods are those of the document: " + seen, seen.equals(FACE));
        for (Method m : BillWatch.class.getDeclaredMethods()) {
            if (!Modifier.isPublic(m.getModifiers())) {
                due.yes(m + " is private", Modifier.isPrivate(m.getModifiers()));
                due.no(m + " bears a public name", names.contains(m.getName()));
            }
        }
    }

    private static void theFields(Due due) {
        for (Field f : BillWatch.class.getDeclaredFields()) {
            int flags = f.getModifiers();
            boolean isNone = f.getName().equals("NONE");
            due.yes(f + " is seen as it should be", isNone ? Modifier.isPublic(flags) : Modifier.isPrivate(flags));
            due.no(f + " is static and changes", Modifier.isStatic(flags) && !Modifier.isFinal(flags));
        }
    }

    private static void theClassesInside(Due due) {
        due.yes("twelve classes at most", BillWatch.class.getDeclaredClasses().length < 12);
        for (Class<?> c : BillWatch.class.getDeclaredClasses()) {
            int flags = c.getModifiers();
            due.yes(c + " is static", Modifier.isStatic(flags));
            due.no(c + " is public or protected", Modifier.isPublic(flags) || Modifier.isProtected(flags));
            long fields = Arrays.stream(c.getDeclaredFields()).filter(f -> !Modifier.isStatic(f.getModifiers())).count();
            due.yes(c + " has twenty fields at most", fields <= 20);
            noLambdaAndFewParameters(due, c);
        }
        noLambdaAndFewParameters(due, BillWatch.class);
    }

    private static void noLambdaAndFewParameters(Due due, Class<?> c) {
        for (Method m : c.getDeclaredMethods()) {
            due.no(m + " is a lambda", m.getName().startsWith("lambda$"));
            due.yes(m + " takes seven at most", m.getParameterCount() <= 7);
        }
    }

    private static void theText(Due due) throws IOException {
        String text = Files.readString(Path.of("src/main/java/BillWatch.java"));
        String code = text.replaceAll("(?s)/\\*.*?\\*/", " ").replaceAll("//[^\n]*", " ");
        String[] words = {"throw", "throws", "try", "catch", "synchronized", "assert", "package", "protected",
            "Random", "Thread", "\\w+Exact", "currentTimeMillis", "nanoTime"};
        for (String word : words) {
            due.no("the word " + word, code.matches("(?s).*\\b" + word + "\\b.*"));
        }
        due.no("a method reference", code.contains("::"));
    }
}
