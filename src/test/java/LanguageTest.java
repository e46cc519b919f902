import java.nio.file.Files;
import java.nio.file.Paths;
import java.util.List;
import java.util.regex.Matcher;
import java.util.regex.Pattern;

/** What of LANGUAGE.md can be seen from the text of the class. */
public final class LanguageTest {
    private static final Pattern HEAD = Pattern.compile(
            "^( +)(?:(?:public|private|static|final|abstract) )*(?:[\\w\\[\\]]+ )?\\w+\\(([^()]*)\\)[^;=]*\\{$");

    public static void main(String[] args) throws Exception {
        List<String> lines = Files.readAllLines(Paths.get("src/main/java/SixToCarry.java"));
        String all = String.join("\n", lines);
        String code = all.replaceAll("(?s)/\\*.*?\\*/", "").replaceAll("//[^\n]*", "")
                .replaceAll("'(\\\\.|[^'])'", "' '").replaceAll("\"[^\"\n]*\"", "\"\"");
        for (String word : new String[] {"->", "::", "Exact(", "synchronized", "assert ", "finally", "try ", "catch ",
            "hashCode", "Random", "Thread", "nanoTime", "currentTimeMillis", "instanceof", "protected ", "@", "...",
            "package ", "static {", "\" +", "+ \""}) {
            Check.due("'" + word + "' stands in the class", code.contains(word), false);
        }
        for (char sign : all.toCharArray()) {
            if (sign > 126 || sign < 32 && sign != '\n') {
                Check.due("a sign of the class", sign, ' ');
            }
        }
        Matcher imports = Pattern.compile("(?m)^import .*$").matcher(code);
        Check.due("an import", imports.find(), true);
        Check.due("the import", imports.group(), "import java.util.NoSuchElementException;");
        Check.due("another import", imports.find(), false);
        Matcher classes = Pattern.compile("\\b(class|record|enum|interface) \\w+").matcher(code);
        int number = 0;
        while (classes.find()) {
            number++;
        }
        Check.due("twelve classes at most", number <= 12, true);
        Matcher thrown = Pattern.compile("throw ([^;]*);").matcher(code);
        while (thrown.find()) {
            Check.due("what is thrown", thrown.group(1), "new NoSuchElementException(\"\")");
        }
        methods(lines);
        Check.end();
    }

    private static void methods(List<String> lines) {
        int found = 0;
        for (int k = 0; k < lines.size(); k++) {
            Matcher head = HEAD.matcher(lines.get(k));
            if (!head.matches() || lines.get(k).matches(" +(if|for|while|switch|} else).*")) {
                continue;
            }
            found++;
            int end = lines.subList(k, lines.size()).indexOf(head.group(1) + "}");
            Check.due("line " + (k + 1) + ": a method of at most sixty lines", end > 0 && end < 60, true);
            Check.due("line " + (k + 1) + ": at most seven parameters", head.group(2).split(",").length <= 7, true);
        }
        Check.due("methods are found", found > 120, true);
    }
}
