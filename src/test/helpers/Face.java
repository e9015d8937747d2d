import java.io.IOException;
import java.nio.file.Files;
import java.nio.file.Path;
import java.util.Set;
import java.util.TreeSet;
import java.util.regex.Matcher;
import java.util.regex.Pattern;

/** The public face as it is written in the document. */
final class Face {
    private static final Path DOCUMENT = Path.of("../shared/DOC.md");

    private Face() { }

    /** Such as "public static final int BAD = -1". */
    static Set<String> constants() throws IOException {
        return found("(public static final \\w+ \\w+ = -?\\d+);");
    }

    /** Such as "int count(int p, int what)". */
    static Set<String> methods() throws IOException {
        return found("public (\\w+ \\w+\\([\\w, ]*\\));");
    }

    private static Set<String> found(String form) throws IOException {
        String document = Files.readString(DOCUMENT);
        int start = document.indexOf("```java");
        Matcher matcher = Pattern.compile(form).matcher(document.substring(start, document.indexOf("```", start + 7)));
        Set<String> all = new TreeSet<>();
        while (matcher.find()) {
            all.add(matcher.group(1));
        }
        return all;
    }
}
