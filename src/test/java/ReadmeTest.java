import java.lang.reflect.Method;
import java.nio.file.Files;
import java.nio.file.Path;
import java.util.ArrayList;
import java.util.List;
import java.util.regex.Matcher;
import java.util.regex.Pattern;

/**
 * What README.md shows is what the class answers: its lines of calls are made, and each answers what stands behind it.
 * Arguments: the class's source, by which README.md is found.
 */
public final class ReadmeTest extends Checks {
    private static final Pattern BLOCK = Pattern.compile("(?s)```(text|java)\n(.*?)```");
    private static final Pattern CALL = Pattern.compile("(\\w+)\\((.*?)\\);\\s+// (-?\\d+|true|false)\\b.*");

    private String text = "";
    private WordMill mill = new WordMill();
    private int calls = 0;

    public static void main(String[] args) throws Exception {
        says("README.md");
        due("whether the source is told", args.length > 0, true);
        if (args.length > 0) {
            Path root = Path.of(args[0]).toAbsolutePath().normalize().resolve("../../../..").normalize();
            new ReadmeTest().go(Files.readString(root.resolve("README.md")));
        }
        end();
    }

    private void go(String readme) throws Exception {
        Matcher block = BLOCK.matcher(readme);
        while (block.find()) {
            if (block.group(1).equals("text")) {
                text = block.group(2);
            } else {
                // Lines within a method (the helper) stand further in.
                for (String line : block.group(2).split("\n")) {
                    line(line);
                }
            }
        }
        due("whether calls are shown", calls > 20, true);
    }

    private void line(String line) throws Exception {
        if (line.equals("WordMill mill = new WordMill();")) {
            mill = new WordMill();
        } else if (line.startsWith("mill.") || line.startsWith("tell(")) {
            Matcher call = CALL.matcher(line.replace("mill.", ""));
            due("whether an answer stands behind " + line, call.matches(), true);
            if (call.matches()) {
                calls++;
                due(line, answer(call.group(1), call.group(2)), call.group(3));
            }
        }
    }

    private String answer(String name, String arguments) throws Exception {
        if (name.equals("tell")) {
            return String.valueOf(read(mill, text));
        }
        List<Object> values = new ArrayList<>();
        for (String value : arguments.split(", *")) {
            if (value.equals("true") || value.equals("false")) {
                values.add(Boolean.valueOf(value));
            } else if (!value.isEmpty()) {
                values.add(Integer.decode(value));
            }
        }
        for (Method method : WordMill.class.getMethods()) {
            if (method.getName().equals(name) && method.getParameterCount() == values.size()) {
                return String.valueOf(method.invoke(mill, values.toArray()));
            }
        }
        return "no such call";
    }
}
