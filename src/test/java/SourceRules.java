import java.io.IOException;
import java.nio.file.Files;
import java.nio.file.Path;
import java.util.regex.Matcher;
import java.util.regex.Pattern;

/** Rules of LANGUAGE.md that can be read off the source, which is told or found from the project's folder. */
public final class SourceRules {
    private static final Path SOURCE = Path.of("src/main/java/TypedDescent.java");
    private static final String[] NEVER = {"throw", "throws", "try", "catch", "finally", "synchronized", "assert",
        "protected", "package", "volatile", "native", "System\\.(?!arraycopy)", "\\w+Exact", "Object", "Random",
        "instanceof", "->", "::", "hashCode", "toString"};
    private static final String[] FACE = {"feed", "program", "blocks", "place", "kind", "code", "label", "run",
        "value", "count", "register", "heap"};

    public static void main(String[] args) throws IOException {
        String code = bare(Files.readString(SOURCE));
        for (String word : NEVER) {
            String found = word.matches("\\W+") ? Pattern.quote(word) : "\\b" + word + "\\b".repeat(
                word.endsWith(")") ? 0 : 1);
            Check.due(word, count(code, found), 0);
        }
        Check.due("imports", count(code, "\\bimport\\b"), 1);
        Check.due("of what", count(code, "import java\\.util\\.Arrays;"), 1);
        Check.due("public classes", count(code, "\\bpublic final class\\b"), 1);
        Check.due("classes", count(code, "\\bclass\\b"), count(code, "\\b(public|private static) final class\\b"));
        Check.due("few classes", count(code, "\\bclass\\b") <= 12 ? 1 : 0, 1);
        Check.due("static fields that are not final", count(code, "\\bstatic (?!final\\b)\\w+(\\[\\])? \\w+( =|;)"), 0);
        for (String name : FACE) {
            Check.due("private " + name, count(code, "private (static )?[\\w\\[\\]]+ " + name + "\\("), 0);
        }
        Check.end();
    }

    private static int count(String code, String pattern) {
        Matcher matcher = Pattern.compile(pattern).matcher(code);
        int n = 0;
        while (matcher.find()) {
            n++;
        }
        return n;
    }

    /** Without comments, texts and characters. */
    private static String bare(String source) {
        return source.replaceAll("(?s)/\\*.*?\\*/", " ").replaceAll("//[^\n]*", " ")
            .replaceAll("\"[^\"\n]*\"", "\"\"").replaceAll("'[^'\n]*'", "''");
    }
}
