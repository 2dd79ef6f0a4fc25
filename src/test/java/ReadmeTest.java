import java.lang.reflect.Method;
import java.nio.file.Files;
import java.nio.file.Path;
import java.util.List;
import java.util.regex.Matcher;
import java.util.regex.Pattern;

/** README.md's samples answer what it says, and it names every call with as many parameters as it has. */
public final class ReadmeTest {
    private static final Pattern SAMPLE = Pattern.compile("x\\.(\\w+)\\((.*)\\);\\s*// (-?\\d+).*");

    public static void main(String[] args) throws Exception {
        List<String> lines = Files.readAllLines(Path.of("README.md"));
        samples(lines);
        calls(String.join("\n", lines));
        Check.end("ReadmeTest");
    }

    private static void samples(List<String> lines) {
        LeftByLast x = new LeftByLast();
        int asked = 0;
        for (String line : lines) {
            if (!line.startsWith("x.")) continue;
            Matcher sample = SAMPLE.matcher(line);
            Check.due("README: a call and its answer: " + line, sample.matches() ? 1 : 0, 1);
            if (!sample.matches()) continue;
            long got = Calls.answer(x, sample.group(1), values(sample.group(2)));
            Check.due("README: " + line, got, Long.parseLong(sample.group(3)));
            asked++;
        }
        Check.due("README has samples", asked > 30 ? 1 : 0, 1);
    }

    private static long[] values(String told) {
        if (told.isEmpty()) return new long[0];
        String[] parts = told.split(", ");
        long[] values = new long[parts.length];
        for (int i = 0; i < parts.length; i++) {
            values[i] = parts[i].startsWith("'") ? parts[i].charAt(1) : Long.parseLong(parts[i]);
        }
        return values;
    }

    private static void calls(String text) {
        for (Method m : Calls.of(LeftByLast.class).values()) {
            Matcher named = Pattern.compile("`" + m.getName() + "\\(([a-z, ]*)\\)`").matcher(text);
            boolean found = named.find();
            Check.due("README names " + m.getName(), found ? 1 : 0, 1);
            if (!found) continue;
            String told = named.group(1);
            int many = told.isEmpty() ? 0 : told.split(", ").length;
            Check.due("README's parameters of " + m.getName(), many, m.getParameterCount());
        }
    }
}
