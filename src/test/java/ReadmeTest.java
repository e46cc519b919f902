import java.lang.reflect.Method;
import java.lang.reflect.Modifier;
import java.nio.file.Files;
import java.nio.file.Paths;
import java.util.regex.Matcher;
import java.util.regex.Pattern;

/** README.md: its run of calls answers as it says, it names every call, and its texts can be read. */
public final class ReadmeTest {
    private static final Pattern CALL = Pattern.compile(
            "(?m)^x\\.(\\w+)\\(([^)]*)\\);\\s*// (-?\\w+)(?: \\| ((?:-?\\d+ )*))?.*$");
    private static final Pattern TEXT = Pattern.compile("(?m)^\\| (`.*`) \\|.*\\| `([^`]*)` \\|$");

    public static void main(String[] args) throws Exception {
        String page = Files.readString(Paths.get("README.md"));
        runs(page);
        names(page);
        texts(page);
        Check.end();
    }

    private static void runs(String page) {
        SixToCarry x = new SixToCarry();
        Matcher call = CALL.matcher(page);
        int found = 0;
        while (call.find()) {
            found++;
            int[] numbers = call.group(2).isEmpty() ? new int[0] : new int[] {Integer.decode(call.group(2))};
            String due = call.group(3).equals("true") ? "1" : call.group(3);
            Check.due(call.group(), Runs.answer(x, call.group(1), numbers, null), due);
            if (call.group(4) != null) {
                Check.due(call.group() + " ROW", Check.row(x), call.group(4).trim());
            }
        }
        Check.due("every call of the run is seen", found, page.split("\nx\\.", -1).length - 1);
        Check.due("calls of the run", found > 15, true);
    }

    private static void names(String page) {
        for (Method method : SixToCarry.class.getDeclaredMethods()) {
            if (Modifier.isPublic(method.getModifiers())) {
                Check.due(method.getName() + " is named", page.contains("`" + method.getName() + "`"), true);
            }
        }
    }

    private static void texts(String page) {
        Matcher example = TEXT.matcher(page);
        int found = 0;
        while (example.find()) {
            for (String name : example.group(1).replace("`", "").split(", ")) {
                SixToCarry x = Check.funeral("000", "30,5;31,6", "8+3a");
                found++;
                String answer = Runs.answer(x, name, new int[0], example.group(2));
                boolean read = name.equals("law") ? answer.equals("-20000") : !answer.startsWith("-");
                Check.due(name + " reads '" + example.group(2) + "'", read, true);
            }
        }
        Check.due("texts of the page", found, 6);
    }
}
