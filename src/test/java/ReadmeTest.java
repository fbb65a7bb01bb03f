import java.io.IOException;
import java.nio.file.Files;
import java.nio.file.Path;
import java.util.ArrayList;
import java.util.List;
import java.util.regex.Matcher;
import java.util.regex.Pattern;

/** What README.md shows as the use of the class answers what README.md says. */
public final class ReadmeTest {
    private static final Pattern CALL = Pattern.compile("x\\.(\\w+)\\((.*?)\\); *(?:// (-?\\d+|true|false)\\b.*|//.*)?");

    public static void main(String[] args) throws IOException {
        Desk desk = new Desk();
        int told = 0;
        List<String> lines = example();
        for (String line : lines) {
            Matcher call = CALL.matcher(line);
            if (!call.matches()) {
                Desk.same("a line of the example", line, "ShareHall x = new ShareHall();");
            } else if (call.group(3) == null) {
                desk.ask(asked(call.group(1), call.group(2)));
            } else {
                told++;
                desk.due(asked(call.group(1), call.group(2)), due(call.group(3)));
            }
        }
        Desk.same("the example has lines and tells answers", lines.size() > 10 && told > 4, true);
        Desk.end();
    }

    private static List<String> example() throws IOException {
        List<String> lines = new ArrayList<>();
        boolean inside = false;
        for (String line : Files.readAllLines(Path.of("README.md"))) {
            if (line.startsWith("```")) {
                inside = line.equals("```java");
            } else if (inside && !line.isBlank()) {
                lines.add(line.strip());
            }
        }
        return lines;
    }

    private static String asked(String name, String arguments) {
        StringBuilder line = new StringBuilder(name);
        for (String argument : arguments.split(", *")) {
            if (!argument.isEmpty()) {
                String plain = argument.replaceFirst("L$", "").replace("ShareHall.NONE", "-1");
                line.append(' ').append(Long.decode(plain));
            }
        }
        return line.toString();
    }

    private static String due(String told) {
        return told.equals("true") ? "1" : told.equals("false") ? "0" : told;
    }
}
