import java.io.IOException;
import java.lang.reflect.Executable;
import java.lang.reflect.Field;
import java.lang.reflect.Method;
import java.lang.reflect.Modifier;
import java.nio.file.Files;
import java.nio.file.Path;
import java.util.ArrayList;
import java.util.Arrays;
import java.util.List;
import java.util.Set;
import java.util.regex.Pattern;

/** Rules of LANGUAGE.md that a look at words, members and lengths can keep; it is run from the project's folder. */
public final class LanguageTest {
    private static final Check CHECK = new Check("LanguageTest");
    private static final String[] RULED_OUT = {
        "\\bpackage\\b", "\\bprotected\\b", "\\bthrow\\b", "\\bthrows\\b", "\\btry\\b", "\\bcatch\\b",
        "\\bsynchronized\\b", "\\bassert\\b", "->", "::", "Exact\\b", "\\bvar\\b", "\\bObject\\b", "\\bRandom\\b",
        "\\bSystem\\.(?!arraycopy\\b)", "\\bThread\\b", "\\bNaN\\b", "\\bwhile\\s*\\(\\s*true", "\\bfor\\s*\\(\\s*;",
        "\\bimport (?!java\\.util\\.(Arrays|ArrayList|List|Iterator);)"};
    private static final Set<Class<?>> STATIC_TYPES = Set.of(int.class, long.class, boolean.class, char.class,
        String.class, int[].class, long[].class, char[].class, byte[].class);
    private static final int MOST_CLASSES = 12, MOST_FIELDS = 20, MOST_PARAMETERS = 7, MOST_LINES = 60;

    public static void main(String[] args) throws IOException {
        String source = Files.readString(Path.of("src/main/java/LeafOrder.java"));
        String code = source.replaceAll("(?s)/\\*.*?\\*/", "").replaceAll("//[^\n]*", "");
        for (String word : RULED_OUT) {
            CHECK.holds("no " + word, !Pattern.compile(word).matcher(code).find());
        }
        CHECK.holds("one top class", code.split("\n(?=\\S*\\s*(final |abstract )?class |public )").length == 2);
        lengths(source.split("\n"));
        List<Class<?>> classes = new ArrayList<>(Arrays.asList(LeafOrder.class.getDeclaredClasses()));
        classes.add(LeafOrder.class);
        CHECK.holds("rule 11: at most some twelve classes", classes.size() <= MOST_CLASSES);
        for (Class<?> one : classes) {
            fields(one);
            members(one);
        }
        CHECK.finish();
    }

    private static void fields(Class<?> one) {
        int own = 0;
        for (Field field : one.getDeclaredFields()) {
            if (!Modifier.isStatic(field.getModifiers())) {
                own++;
                continue;
            }
            CHECK.holds("rule 5: " + field, Modifier.isFinal(field.getModifiers())
                && STATIC_TYPES.contains(field.getType()));
        }
        CHECK.holds("rule 11: fields of " + one, own <= MOST_FIELDS);
    }

    private static void members(Class<?> one) {
        List<Executable> all = new ArrayList<>(Arrays.asList(one.getDeclaredMethods()));
        all.addAll(Arrays.asList(one.getDeclaredConstructors()));
        for (Executable member : all) {
            CHECK.holds("rule 11: parameters of " + member, member.getParameterCount() <= MOST_PARAMETERS);
            CHECK.holds("rule 2: written out: " + member, !member.isSynthetic());
        }
        for (Method method : one.getDeclaredMethods()) {
            CHECK.holds("rule 6: " + method, !Set.of("equals", "hashCode", "toString").contains(method.getName()));
        }
    }

    /** A method's last brace stands as far in as the line that begins it. */
    private static void lengths(String[] lines) {
        int methods = 0;
        for (int i = 0; i < lines.length; i++) {
            if (!lines[i].matches("( {4}| {8})[^\\s*/].*\\) \\{") || lines[i].matches(" +(if|for|while|switch) .*")) {
                continue;
            }
            methods++;
            String end = lines[i].replaceAll("\\S.*", "") + "}";
            int last = i;
            while (last < lines.length && !lines[last].equals(end)) {
                last++;
            }
            CHECK.holds("rule 11: short: " + lines[i].strip(), last - i < MOST_LINES);
        }
        CHECK.holds("methods were found", methods >= 34);
    }
}
