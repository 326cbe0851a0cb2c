import java.nio.file.Files;
import java.nio.file.Path;
import java.util.Arrays;
import java.util.HashMap;
import java.util.Map;
import java.util.regex.Matcher;
import java.util.regex.Pattern;

/** The lines of README.md that make an object, tell it letters, or call it and say what it answers. */
public final class ReadmeTest {
    private static final Pattern NEW = Pattern.compile("ToWhoNeeds (\\w) = new ToWhoNeeds\\(\\);");
    private static final Pattern TEXT = Pattern.compile("for \\(char c : \"([^\"]*)\"\\.toCharArray\\(\\)\\) \\{");
    private static final Pattern LETTER = Pattern.compile(" +(\\w)\\.letter\\(c\\);");
    private static final Pattern CALL = Pattern.compile("(\\w)\\.(\\w+)\\(([^)]*)\\); +// (-?\\d+)\\b.*");

    private ReadmeTest() { }

    public static void main(String[] args) throws Exception {
        // .ci/run tells where the class is; README.md stands at the root above it.
        Path source = Path.of(System.getProperty("source", "src/main/java/ToWhoNeeds.java")).toAbsolutePath();
        Path root = source.getParent().getParent().getParent().getParent();
        Map<String, ToWhoNeeds> objects = new HashMap<>();
        String text = "";
        int calls = 0;
        for (String line : Files.readAllLines(root.resolve("README.md"))) {
            Matcher made = NEW.matcher(line);
            Matcher told = TEXT.matcher(line);
            Matcher letter = LETTER.matcher(line);
            Matcher call = CALL.matcher(line);
            if (made.matches()) {
                objects.put(made.group(1), new ToWhoNeeds());
            } else if (told.matches()) {
                text = told.group(1);
            } else if (letter.matches()) {
                ByHand.say(objects.get(letter.group(1)), text);
            } else if (call.matches()) {
                calls++;
                Check.due("README.md: " + line, answer(objects.get(call.group(1)), call.group(2), call.group(3)),
                    Integer.parseInt(call.group(4)));
            }
        }
        Check.due("README.md: calls of which it tells the answer", calls >= 20 ? 1 : 0, 1);
        Check.end();
    }

    private static int answer(ToWhoNeeds x, String name, String said) throws Exception {
        String[] numbers = said.isEmpty() ? new String[0] : said.split(", ");
        Class<?>[] types = new Class<?>[numbers.length];
        Arrays.fill(types, int.class);
        Object[] given = Arrays.stream(numbers).map(Integer::valueOf).toArray();
        return (Integer) ToWhoNeeds.class.getMethod(name, types).invoke(x, given);
    }
}
