import java.io.IOException;
import java.lang.reflect.Constructor;
import java.lang.reflect.Field;
import java.lang.reflect.Method;
import java.lang.reflect.Modifier;
import java.nio.file.Files;
import java.nio.file.Path;
import java.util.Set;
import java.util.TreeSet;
import java.util.regex.Matcher;
import java.util.regex.Pattern;

/** The rules of LANGUAGE.md that can be looked up: words in the file, members of the class. */
final class LanguageTests {
    private static final String FACE = "again back blame count desk ear evening fault fifths forget halves hear heard high "
        + "keep lay mean minutes needles odds off round spread together tune undo way wipe write";
    private static final String[] FORBIDDEN = {
        "throw", "throws", "try", "catch", "synchronized", "assert", "import", "package", "protected", "volatile",
        "->", "::", "\"\"\"", "Exact", "System.", "Thread", "Random", "MAX_VALUE", "MIN_VALUE", ".equals", "hashCode", "toString"
    };

    static void run(Due due, String file) throws IOException {
        String source = Files.readString(Path.of(file)).replaceAll("(?s)/\\*.*?\\*/", " ").replaceAll("//[^\n]*", " ");
        for (String word : FORBIDDEN) {
            Matcher found = Pattern.compile(Character.isLetter(word.charAt(0)) ? "\\b" + word : Pattern.quote(word)).matcher(source);
            due.is("'" + word + "' in the source", found.find() ? 1 : 0, 0);
        }
        checkFace(due);
    }

    private static void checkFace(Due due) {
        Set<String> open = new TreeSet<>();
        Set<String> hidden = new TreeSet<>();
        for (Method method : RoundOfTheA.class.getDeclaredMethods()) {
            boolean isPublic = Modifier.isPublic(method.getModifiers());
            (isPublic ? open : hidden).add(method.getName());
            due.is(method + " is public or private", isPublic || Modifier.isPrivate(method.getModifiers()) ? 1 : 0, 1);
            due.is(method + " takes seven at most", method.getParameterCount() <= 7 ? 1 : 0, 1);
        }
        due.is("the face's methods: " + open, String.join(" ", open).equals(FACE) ? 1 : 0, 1);
        hidden.retainAll(open);
        due.is("private methods by a public name: " + hidden, hidden.size(), 0);
        for (Field field : RoundOfTheA.class.getDeclaredFields()) {
            boolean isConstant = Set.of("BAD", "NO", "FULL", "NONE").contains(field.getName());
            due.is(field + " is seen", isConstant == Modifier.isPublic(field.getModifiers()) ? 1 : 0, 1);
            due.is(field + " is private or a constant", isConstant || Modifier.isPrivate(field.getModifiers()) ? 1 : 0, 1);
        }
        for (Constructor<?> constructor : RoundOfTheA.class.getDeclaredConstructors()) {
            due.is(constructor + " is public", Modifier.isPublic(constructor.getModifiers()) ? 1 : 0, 1);
        }
        for (Class<?> inside : RoundOfTheA.class.getDeclaredClasses()) {
            int is = inside.getModifiers();
            due.is(inside + " is static and not open", Modifier.isStatic(is) && !Modifier.isPublic(is) ? 1 : 0, 1);
        }
    }
}
