import java.io.IOException;
import java.nio.file.Files;
import java.nio.file.Path;
import java.util.ArrayList;
import java.util.List;
import java.util.regex.Matcher;
import java.util.regex.Pattern;

/** README.md is right: its example answers what it says, and it has a row for each call of the class. */
public final class ReadmeTest {
    private static final Path README = Path.of("README.md");
    private static final Path SOURCE = Path.of("src/main/java/RedBalloons.java");
    private static final Pattern TEXT = Pattern.compile("String text = \"(\\w+)\";");
    private static final Pattern CALL = Pattern.compile("sky\\.(\\w+)\\(([^)]*)\\); +// (-?\\d+)");
    private static final Pattern FACE = Pattern.compile("^    public (?:int|long) (\\w+)\\(([^)]*)\\) \\{", Pattern.MULTILINE);

    private static int wrong = 0;
    private static int looked = 0;

    private static void holds(String what, boolean so) {
        looked++;
        if (!so) {
            wrong++;
            System.out.println("README.md: " + what);
        }
    }

    private static Object number(Class<?> type, String told) {
        if (type == boolean.class) {
            return Boolean.valueOf(told);
        }
        return type == long.class ? (Object) Long.valueOf(told) : (Object) Integer.valueOf(told);
    }

    private static long ask(RedBalloons sky, String call, String numbers) throws ReflectiveOperationException {
        String[] told = numbers.isBlank() ? new String[0] : numbers.split(", *");
        for (var method : RedBalloons.class.getDeclaredMethods()) {
            if (method.getName().equals(call)) {
                List<Object> given = new ArrayList<>();
                for (int i = 0; i < told.length; i++) {
                    given.add(number(method.getParameterTypes()[i], told[i]));
                }
                return ((Number) method.invoke(sky, given.toArray())).longValue();
            }
        }
        throw new NoSuchMethodException(call);
    }

    private static void example(String readme) throws ReflectiveOperationException {
        RedBalloons sky = new RedBalloons();
        Matcher text = TEXT.matcher(readme);
        holds("there is a text", text.find());
        for (char letter : text.group(1).toCharArray()) {
            sky.write(letter);
        }
        Matcher call = CALL.matcher(readme);
        int calls = 0;
        while (call.find()) {
            calls++;
            long got = ask(sky, call.group(1), call.group(2));
            holds(call.group() + " answered " + got, got == Long.parseLong(call.group(3)));
        }
        holds("there are calls", calls >= 10);
    }

    private static void rows(String readme, String source) {
        Matcher face = FACE.matcher(source);
        int calls = 0;
        while (face.find()) {
            calls++;
            String names = face.group(2).replaceAll("\\b(int|long|boolean) ", "");
            String row = "| `" + face.group(1) + "(" + names + ")` | ";
            holds("no row for " + row, readme.contains("\n" + row));
        }
        holds("so many calls: " + calls, calls == 27);
    }

    private static void tests(String readme) throws IOException {
        holds("how to run the tests", readme.contains("\n    .ci/run\n"));
        try (var files = Files.list(Path.of("src/test/java"))) {
            files.forEach(file -> {
                String name = file.getFileName().toString().replace(".java", "");
                holds("no word of " + name, readme.contains("\n- `" + name + "`: "));
            });
        }
    }

    public static void main(String[] args) throws IOException, ReflectiveOperationException {
        String readme = Files.readString(README);
        example(readme);
        rows(readme, Files.readString(SOURCE));
        tests(readme);
        System.out.println(wrong == 0 ? "README.md is right in " + looked + " places" : wrong + " places are not right");
        if (wrong != 0) {
            System.exit(1);
        }
    }
}
