import java.lang.reflect.Constructor;
import java.lang.reflect.Field;
import java.lang.reflect.Method;
import java.lang.reflect.Modifier;
import java.nio.file.Files;
import java.nio.file.Path;
import java.util.Set;
import java.util.TreeSet;
import java.util.regex.Matcher;
import java.util.regex.Pattern;

/** The rules of ../shared/LANGUAGE.md that the source and reflection show; the others are for the reader. */
public final class LanguageTest {
    private static final Due DUE = new Due();
    private static final Pattern WORDS_OUTSIDE = Pattern.compile(
            "\\b(package|import|finally|synchronized|assert|Object|Thread|native|volatile)\\b"
                    + "|->|::|\\w+Exact\\b|\\.(hashCode|toString|getMessage)\\b|\\bSystem\\b(?!\\.arraycopy)"
                    // An IndexOutOfBoundsException may be the machine's too, so none is caught.
                    + "|\\bcatch \\((?!(IllegalState|IllegalArgument|UnsupportedOperation)Exception )");
    private static final Pattern THROW = Pattern.compile("\\bthrow\\b([^;]*);");
    private static final Pattern THROW_WITHIN = Pattern.compile(
            " new (IllegalState|IllegalArgument|IndexOutOfBounds|UnsupportedOperation)Exception\\(\"\"\\)");
    private static final Pattern METHOD = Pattern.compile("^( +)[\\w\\[\\] ]+\\([^;]*\\)[\\w, ]* \\{$");

    public static void main(String[] args) throws Exception {
        String path = System.getProperty("source");
        if (path == null) {
            throw new IllegalStateException("name StreetGraph.java with -Dsource=..");
        }
        String source = withoutTextsAndComments(Files.readString(Path.of(path)));
        wordsAreWithin(source);
        throwsAreWithin(source);
        methodsAreShort(source);
        Class<?>[] inside = StreetGraph.class.getDeclaredClasses();
        DUE.same("rule 11: at most twelve classes", inside.length + 1 <= 12, true);
        membersAreWithin(StreetGraph.class);
        for (Class<?> one : inside) {
            DUE.same("rule 1: static " + one.getName(), Modifier.isStatic(one.getModifiers()), true);
            DUE.same("rule 1: not shown " + one.getName(),
                    one.getModifiers() & (Modifier.PUBLIC | Modifier.PROTECTED), 0);
            DUE.same("classes in " + one.getName(), one.getDeclaredClasses().length, 0);
            membersAreWithin(one);
        }
        noNameOfTheFaceAgain();
        DUE.finish();
    }

    /** Texts are left as "", characters as '', so that no word in them counts. */
    private static String withoutTextsAndComments(String source) {
        return source.replaceAll("(?s)/\\*.*?\\*/", "").replaceAll("'\\\\?.'", "''")
                .replaceAll("\"(\\\\.|[^\"\\\\\n])*\"", "\"\"").replaceAll("//[^\n]*", "");
    }

    private static void wordsAreWithin(String source) {
        Matcher word = WORDS_OUTSIDE.matcher(source);
        while (word.find()) {
            DUE.same("rules 2 to 6, 13", word.group(), "a word within the rules");
        }
        DUE.same("rule 10: joining texts by +", source.contains("\"\" +") || source.contains("+ \"\""), false);
    }

    private static void throwsAreWithin(String source) {
        int found = 0;
        Matcher thrown = THROW.matcher(source);
        while (thrown.find()) {
            found++;
            DUE.same("rule 6:" + thrown.group(1), THROW_WITHIN.matcher(thrown.group(1)).matches(), true);
        }
        DUE.same("that there are throws", found > 0, true);
    }

    private static void methodsAreShort(String source) {
        String[] lines = source.split("\n", -1);
        int found = 0;
        for (int i = 0; i < lines.length; i++) {
            Matcher head = METHOD.matcher(lines[i]);
            if (head.matches() && (head.group(1).length() == 4 || head.group(1).length() == 8)) {
                int end = i;
                while (end < lines.length && !lines[end].equals(head.group(1) + "}")) {
                    end++;
                }
                found++;
                DUE.same("rule 11: short" + lines[i], end - i + 1 <= 60, true);
            }
        }
        DUE.same("that methods were found", found >= 60, true);
    }

    private static void membersAreWithin(Class<?> one) {
        int fields = 0;
        for (Field field : one.getDeclaredFields()) {
            String told = one.getName() + "." + field.getName();
            boolean fixed = Modifier.isStatic(field.getModifiers());
            Class<?> type = field.getType();
            if (fixed) {
                DUE.same("rule 5: final " + told, Modifier.isFinal(field.getModifiers()), true);
                DUE.same("rule 5: a constant " + told, type.isPrimitive() || type == String.class, true);
            } else {
                fields++;
                Class<?> element = type.isArray() ? type.getComponentType() : type;
                DUE.same("rule 3: the type of " + told, element.isPrimitive() || element.getNestHost() == StreetGraph.class, true);
            }
        }
        DUE.same("rule 11: fields of " + one.getName(), fields <= 20, true);
        for (Method method : one.getDeclaredMethods()) {
            DUE.same("rule 11: parameters of " + method, method.getParameterCount() <= 7, true);
        }
        for (Constructor<?> constructor : one.getDeclaredConstructors()) {
            DUE.same("rule 11: parameters of " + constructor, constructor.getParameterCount() <= 7, true);
        }
    }

    private static void noNameOfTheFaceAgain() {
        Set<String> names = new TreeSet<>();
        for (Method method : StreetGraph.class.getDeclaredMethods()) {
            if (Modifier.isPublic(method.getModifiers())) {
                DUE.same("rule 1: once " + method.getName(), names.add(method.getName()), true);
            }
        }
        for (Method method : StreetGraph.class.getDeclaredMethods()) {
            if (Modifier.isPrivate(method.getModifiers())) {
                DUE.same("rule 1: no name of the face " + method.getName(), names.contains(method.getName()), false);
            }
        }
    }
}
