import java.nio.file.Files;
import java.nio.file.Path;
import java.util.List;

/** The rules of LANGUAGE.md that can be seen in the program's lines. */
public final class RulesTest {
    private static final String[] NEVER = {"->", "::", "\\bthrows?\\b", "\\bcatch\\b", "\\btry\\b", "\\bfinally\\b",
        "\\bsynchronized\\b", "\\bassert\\b", "\\bassertion\\b", "System\\.(?!arraycopy)", "\\bThread\\b", "Exact\\b",
        "\\bdouble\\b", "\\bfloat\\b", "\\bString\\b", "^\\s*package\\b", "\\bprotected\\b", "\\bstatic \\{",
        "Random", "nanoTime", "toString", "hashCode", "\\.equals\\(", "\\bwhile \\(true\\)", "for \\(;;\\)"};

    public static void main(String[] args) throws Exception {
        List<String> lines = Files.readAllLines(Path.of("src/main/java/LeftByLast.java"));
        int classes = 0;
        int newOnes = 0;
        for (int i = 0; i < lines.size(); i++) {
            String line = lines.get(i);
            if (line.contains("class ")) classes++;
            if (line.startsWith("import ")) Check.due("line " + (i + 1), line, "import java.util.Arrays;");
            String code = line.trim().startsWith("/") ? "" : line;
            for (String one : NEVER) {
                boolean has = java.util.regex.Pattern.compile(one).matcher(code).find();
                Check.due("line " + (i + 1) + " without " + one, has ? 1 : 0, 0);
            }
            if (code.contains("new ") && !isMadeOnce(code)) newOnes++;
        }
        Check.due("no more than twelve classes", classes <= 12 ? 1 : 0, 1);
        Check.due("objects made by calls", newOnes, 0);
        methodLengths(lines);
        Check.end("RulesTest");
    }

    /** In a field, or in a constructor. */
    private static boolean isMadeOnce(String code) {
        return code.contains(" final ") || code.contains("private int[] ") || code.matches("        \\w+ = new .*")
            || code.contains("            day = new Day(") || code.contains("ahead[i] = new Moment()");
    }

    private static void methodLengths(List<String> lines) {
        int from = -1;
        String end = "";
        for (int i = 0; i < lines.size(); i++) {
            String line = lines.get(i);
            if (from < 0 && line.matches("( {4}| {8})\\S.*\\) \\{")) {
                from = i;
                end = line.substring(0, line.length() - line.trim().length()) + "}";
                Check.due(line, line.split(",").length <= 7 ? 1 : 0, 1);
            }
            if (from >= 0 && line.equals(end)) {
                Check.due("lines of " + lines.get(from).trim(), i - from < 60 ? 1 : 0, 1);
                from = -1;
            }
        }
    }
}
