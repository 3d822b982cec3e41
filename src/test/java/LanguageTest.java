import java.io.IOException;
import java.nio.file.Files;
import java.nio.file.Path;
import java.util.regex.Pattern;

/** Those rules of LANGUAGE.md that a look at the source's words can keep; it is run from the project's folder. */
public final class LanguageTest {
    private static final Check CHECK = new Check("LanguageTest");
    private static final String[] RULED_OUT = {
        "\\bpackage\\b", "\\bprotected\\b", "\\bthrow\\b", "\\bthrows\\b", "\\btry\\b", "\\bcatch\\b",
        "\\bsynchronized\\b", "\\bassert\\b", "->", "::", "Exact\\b", "\\bvar\\b", "\\bObject\\b", "\\bRandom\\b",
        "\\bSystem\\.(?!arraycopy\\b)", "\\bThread\\b", "\\bNaN\\b", "\\bwhile\\s*\\(\\s*true", "\\bfor\\s*\\(\\s*;",
        "\\bimport (?!java\\.util\\.(Arrays|ArrayList|List|Iterator);)"};

    public static void main(String[] args) throws IOException {
        String source = Files.readString(Path.of("src/main/java/LeafOrder.java"));
        String code = source.replaceAll("(?s)/\\*.*?\\*/", "").replaceAll("//[^\n]*", "");
        for (String word : RULED_OUT) {
            CHECK.holds("no " + word, !Pattern.compile(word).matcher(code).find());
        }
        CHECK.holds("one top class", code.split("\n(?=\\S*\\s*(final |abstract )?class |public )").length == 2);
        CHECK.finish();
    }
}
