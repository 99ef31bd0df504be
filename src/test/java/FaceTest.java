import java.io.IOException;
import java.lang.reflect.Constructor;
import java.lang.reflect.Field;
import java.lang.reflect.Method;
import java.lang.reflect.Modifier;
import java.nio.file.Files;
import java.nio.file.Path;
import java.util.Arrays;
import java.util.Set;
import java.util.StringJoiner;
import java.util.TreeSet;
import java.util.regex.Matcher;
import java.util.regex.Pattern;

/** The public face, and the rules of LANGUAGE.md that can be read off the class and its text. */
public final class FaceTest {
    private static final Pattern METHOD = Pattern.compile("public (boolean|int) (\\w+)\\(([^)]*)\\);");
    private static final int METHODS = 16;
    private static final int MOST_LINES = 60;
    private static final Set<Class<?>> CONSTANTS = Set.of(int.class, long.class, boolean.class, char.class,
            String.class, int[].class, long[].class, char[].class, byte[].class);

    public static void main(String[] args) throws IOException {
        Due due = new Due();
        theClass(due);
        theMethods(due);
        theFields(due);
        theClassesInside(due);
        theText(due);
        due.end();
    }

    /** What stands in the document's block: result, name and parameters of each method. */
    private static Set<String> faceOfTheDocument() {
        Set<String> face = new TreeSet<>();
        Matcher method = METHOD.matcher(new Document().under("The public face"));
        while (method.find()) {
            String types = method.group(3).replaceAll("(\\w+) \\w+", "$1");
            face.add(method.group(1) + " " + method.group(2) + "(" + types + ")");
        }
        return face;
    }

    private static String told(Method m) {
        StringJoiner types = new StringJoiner(", ", "(", ")");
        for (Class<?> type : m.getParameterTypes()) {
            types.add(type.getName());
        }
        return m.getReturnType() + " " + m.getName() + types;
    }

    private static void theClass(Due due) {
        due.says("The public face", "public final class BillWatch {");
        int flags = BillWatch.class.getModifiers();
        due.yes("the class is public and final", Modifier.isPublic(flags) && Modifier.isFinal(flags));
        due.says("The public face", "public BillWatch();");
        Constructor<?>[] made = BillWatch.class.getDeclaredConstructors();
        due.is("constructors", made.length, 1);
        due.yes("a public one", Modifier.isPublic(made[0].getModifiers()));
        due.is("its parameters", made[0].getParameterCount(), 0);
        due.says("The public face", "public static final int NONE = -1;");
        due.is("NONE", BillWatch.NONE, -1);
    }

    private static void theMethods(Due due) {
        due.says("The public face", "public boolean owner(int s, int o); public boolean share(");
        Set<String> seen = new TreeSet<>();
        Set<String> names = new TreeSet<>();
        for (Method m : BillWatch.class.getDeclaredMethods()) {
            if (Modifier.isPublic(m.getModifiers())) {
                seen.add(told(m));
                names.add(m.getName());
                due.no(m + " is static", Modifier.isStatic(m.getModifiers()));
            }
        }
        due.is("methods of the document's face", faceOfTheDocument().size(), METHODS);
        due.yes("the public methods are those of the document: " + seen, seen.equals(faceOfTheDocument()));
        for (Method m : BillWatch.class.getDeclaredMethods()) {
            if (!Modifier.isPublic(m.getModifiers())) {
                due.yes(m + " is private", Modifier.isPrivate(m.getModifiers()));
                due.no(m + " bears a public name", names.contains(m.getName()));
            }
        }
    }

    private static void theFields(Due due) {
        for (Field f : BillWatch.class.getDeclaredFields()) {
            int flags = f.getModifiers();
            boolean isNone = f.getName().equals("NONE") && Modifier.isStatic(flags) && f.getType() == int.class;
            due.yes(f + " is seen as it should be", isNone ? Modifier.isPublic(flags) : Modifier.isPrivate(flags));
            constant(due, f);
        }
    }

    private static void constant(Due due, Field f) {
        if (Modifier.isStatic(f.getModifiers())) {
            due.yes(f + " is static and final", Modifier.isFinal(f.getModifiers()));
            Class<?> type = f.getType();
            boolean ofAnEnum = type.isEnum() || type.isArray() && type.getComponentType().isEnum();
            due.yes(f + " is of a constant's type", ofAnEnum || CONSTANTS.contains(type));
        }
    }

    private static void theClassesInside(Due due) {
        due.yes("twelve classes at most", BillWatch.class.getDeclaredClasses().length < 12);
        for (Class<?> c : BillWatch.class.getDeclaredClasses()) {
            int flags = c.getModifiers();
            due.yes(c + " is static", Modifier.isStatic(flags));
            due.no(c + " is public or protected", Modifier.isPublic(flags) || Modifier.isProtected(flags));
            long fields = Arrays.stream(c.getDeclaredFields()).filter(f -> !Modifier.isStatic(f.getModifiers())).count();
            due.yes(c + " has twenty fields at most", fields <= 20);
            for (Field f : c.getDeclaredFields()) {
                constant(due, f);
            }
            noLambdaAndFewParameters(due, c);
        }
        noLambdaAndFewParameters(due, BillWatch.class);
    }

    private static void noLambdaAndFewParameters(Due due, Class<?> c) {
        for (Method m : c.getDeclaredMethods()) {
            due.no(m + " is a lambda", m.getName().startsWith("lambda$"));
            due.yes(m + " takes seven at most", m.getParameterCount() <= 7);
        }
    }

    private static void theText(Due due) throws IOException {
        String text = Files.readString(Path.of("src/main/java/BillWatch.java"));
        String code = text.replaceAll("(?s)/\\*.*?\\*/", " ").replaceAll("//[^\n]*", " ");
        String[] words = {"throw", "throws", "try", "catch", "synchronized", "assert", "package", "protected",
            "Random", "Thread", "\\w+Exact", "currentTimeMillis", "nanoTime"};
        for (String word : words) {
            due.no("the word " + word, code.matches("(?s).*\\b" + word + "\\b.*"));
        }
        due.no("a method reference", code.contains("::"));
        due.no("a block that starts with static", code.matches("(?s).*\\bstatic\\s*\\{.*"));
        due.is("lines of the longest method above " + MOST_LINES, Math.max(0, longestMethod(text) - MOST_LINES), 0);
    }

    /** From the line that ends with a method's first brace to the one with its last, told by how far they stand in. */
    private static int longestMethod(String text) {
        int longest = 0;
        Matcher method = Pattern.compile("(?m)^( +)[^ \\n*/][^\\n;]*\\) \\{\\n(?s:.*?)\\n\\1\\}$").matcher(text);
        while (method.find()) {
            longest = Math.max(longest, (int) method.group().lines().count());
        }
        return longest;
    }
}
