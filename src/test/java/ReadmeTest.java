import java.io.IOException;
import java.nio.file.Files;
import java.nio.file.Path;
import java.util.Arrays;
import java.util.regex.Matcher;
import java.util.regex.Pattern;

/** README.md: its examples answer what it says, and it names every call of the face. */
final class ReadmeTest {
    private static final Path README = Path.of("README.md");
    private static final Pattern BLOCK = Pattern.compile("(?s)```java\n(.*?)```");
    private static final Pattern EXAMPLE = Pattern.compile("box\\.(\\w+)\\(([^()]*)\\); +// answers (-?\\d+)\\b.*");

    private ReadmeTest() {
    }

    static void examples(Checks c) throws IOException {
        Matcher block = BLOCK.matcher(Files.readString(README));
        while (block.find()) {
            CheeseCube box = null;
            for (String line : block.group(1).split("\n")) {
                if (line.startsWith("CheeseCube box = new CheeseCube();")) {
                    box = new CheeseCube();
                } else if (!line.startsWith("//") && !line.isEmpty()) {
                    example(c, box, line);
                }
            }
        }
    }

    static void calls(Checks c) throws IOException {
        String readme = Files.readString(README);
        for (String name : Call.NAMES) {
            c.holds("README.md names " + name, readme.contains("`" + name + "`"));
        }
    }

    private static void example(Checks c, CheeseCube box, String line) {
        Matcher told = EXAMPLE.matcher(line);
        boolean canBeRun = box != null && told.matches();
        c.holds("can be run and tells its answer: " + line, canBeRun);
        if (canBeRun) {
            c.due(line, new Call(told.group(1), numbers(told.group(2))).on(box), Long.parseLong(told.group(3)));
        }
    }

    private static int[] numbers(String list) {
        if (list.isEmpty()) {
            return new int[0];
        }
        return Arrays.stream(list.split(", *"))
                .mapToInt(number -> number.equals("CheeseCube.NONE") ? CheeseCube.NONE : Integer.decode(number))
                .toArray();
    }
}
