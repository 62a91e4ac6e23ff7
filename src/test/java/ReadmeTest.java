import java.io.IOException;
import java.lang.reflect.InvocationTargetException;
import java.lang.reflect.Method;
import java.lang.reflect.Modifier;
import java.nio.ByteBuffer;
import java.nio.charset.StandardCharsets;
import java.nio.file.Files;
import java.nio.file.Path;
import java.util.ArrayList;
import java.util.Arrays;
import java.util.List;
import java.util.regex.Matcher;
import java.util.regex.Pattern;

/** Runs the examples of README.md, line by line, and compares what it says that they answer. */
public final class ReadmeTest {
    private static final Pattern FRESH = Pattern.compile("RoofPigeons x = new RoofPigeons\\(\\);");
    private static final Pattern TYPED = Pattern.compile("type\\(x, (text|\"[^\"]*\")\\);( *// .*)?");
    private static final Pattern CALL = Pattern.compile("x\\.([a-zA-Z]+)\\(([^)]*)\\); *// (throws [A-Za-z]+|[-.0-9a-z]+)(: .*)?");
    private static final String TYPE = "static void type(";

    private RoofPigeons x = new RoofPigeons();
    private String text = "";
    private int calls;

    private record Block(String kind, List<String> lines) {
    }

    private ReadmeTest() {
    }

    public static void main(String[] args) throws IOException {
        Path readme = Path.of("README.md");
        ReadmeTest test = new ReadmeTest();
        for (Block block : blocksOf(readme)) {
            test.take(block);
        }
        Checks.due("whether README.md has examples", test.calls > 20, true);
        namesEveryCall(Files.readString(readme));
        Checks.end();
    }

    private static List<Block> blocksOf(Path readme) throws IOException {
        List<Block> blocks = new ArrayList<>();
        Block open = null;
        for (String line : Files.readAllLines(readme)) {
            if (open != null && line.equals("```")) {
                blocks.add(open);
                open = null;
            } else if (open != null) {
                open.lines.add(line);
            } else if (line.startsWith("```")) {
                open = new Block(line.substring(3), new ArrayList<>());
            }
        }
        Checks.due("whether each example has an end", open == null, true);
        return blocks;
    }

    private void take(Block block) throws IOException {
        String whole = String.join("\n", block.lines);
        if (block.kind.equals("text")) {
            text = whole;
        } else if (whole.startsWith(TYPE)) {
            dueTheSameType(block.lines);
        } else if (block.kind.equals("java")) {
            block.lines.forEach(this::takeLine);
        }
    }

    private void takeLine(String line) {
        Matcher typed = TYPED.matcher(line);
        Matcher call = CALL.matcher(line);
        if (FRESH.matcher(line).matches()) {
            x = new RoofPigeons();
        } else if (typed.matches()) {
            String what = typed.group(1);
            type(x, what.equals("text") ? text : what.substring(1, what.length() - 1));
        } else if (call.matches()) {
            calls++;
            Checks.due("README.md: " + line, answer(call.group(1), call.group(2)), call.group(3));
        } else {
            Checks.due("README.md: " + line, "not understood", "a call with its answer");
        }
    }

    private String answer(String name, String arguments) {
        Object[] values = Arrays.stream(arguments.split(", *")).filter(a -> !a.isEmpty()).map(ReadmeTest::value).toArray();
        try {
            return String.valueOf(methodNamed(name).invoke(x, values));
        } catch (InvocationTargetException e) {
            return "throws " + e.getCause().getClass().getSimpleName();
        } catch (IllegalAccessException e) {
            return "not public";
        }
    }

    private static Object value(String argument) {
        boolean isTruth = argument.equals("true") || argument.equals("false");
        return isTruth ? (Object) Boolean.valueOf(argument) : (Object) Integer.decode(argument);
    }

    private static Method methodNamed(String name) {
        for (Method method : RoofPigeons.class.getDeclaredMethods()) {
            if (method.getName().equals(name)) {
                return method;
            }
        }
        throw new IllegalStateException("README.md names a call that is not there: " + name);
    }

    private static void namesEveryCall(String readme) {
        for (Method method : RoofPigeons.class.getDeclaredMethods()) {
            if (Modifier.isPublic(method.getModifiers())) {
                boolean isNamed = readme.matches("(?s).*`" + method.getName() + "[`(].*");
                Checks.due("whether README.md tells of " + method.getName(), isNamed, true);
            }
        }
    }

    /** Checks that README.md shows the very method that the examples are run with. */
    private static void dueTheSameType(List<String> lines) throws IOException {
        String source = Files.readString(Path.of("src", "test", "java", "ReadmeTest.java"));
        Checks.due("README.md: " + TYPE + "..)", source.contains("    " + String.join("\n    ", lines) + "\n"), true);
    }

    static void type(RoofPigeons x, String text) {
        byte[] bytes = text.getBytes(StandardCharsets.ISO_8859_1);
        for (int from = 0; from < bytes.length; from += 20) {
            ByteBuffer row = ByteBuffer.wrap(Arrays.copyOfRange(bytes, from, from + 20));
            x.feed(row.getInt(), row.getInt(), row.getInt(), row.getInt(), row.getInt());
        }
        x.trim(bytes.length);
    }
}
