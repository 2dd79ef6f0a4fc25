import java.util.regex.Matcher;
import java.util.regex.Pattern;

/** The law's text another way: told by writing operands shorter and shorter, worked out from the right. */
final class OracleText {
    // An operand in which at most h of ( ! - are open at once is written as the h-th letter from A on.
    private static final String O = "[A-G]";
    private static final String S = O + "(?:[-+*/%]" + O + ")*";
    private static final String B = S + "(?:[<=>]" + S + ")?";
    private static final String E = B + "(?:[|&]" + B + ")*";
    private static final Pattern INNER = Pattern.compile("\\((" + E + ")\\)");
    private static final Pattern AHEAD = Pattern.compile("(?<![A-G)])[-!](" + O + ")");

    private OracleText() {
    }

    static boolean isText(String text) {
        if (!text.matches("[-0-9pwxcnk!()*/%+<=>&|?;]*")) return false;
        for (String line : text.split(";", -1)) {
            String[] parts = line.split("\\?", -1);
            if (parts.length > 2) return false;
            for (String part : parts) if (!isExpression(part)) return false;
        }
        return true;
    }

    private static boolean isExpression(String e) {
        String now = e.replaceAll("[0-9]{1,4}|[pwxcnk]", "A");
        for (int i = 0; i < 200; i++) {
            Matcher m = INNER.matcher(now);
            if (!m.find()) {
                m = AHEAD.matcher(now);
                if (!m.find()) break;
            }
            char height = 'A';
            for (char c : m.group(1).toCharArray()) if (c >= 'A' && c <= 'G') height = (char) Math.max(height, c);
            if (height == 'G') return false;
            now = now.substring(0, m.start()) + (char) (height + 1) + now.substring(m.end());
        }
        return now.matches(E);
    }

    /** Where no text goes on: each beginning is tried with all that could end it. */
    static int fault(String text) {
        for (int i = 0; i < text.length(); i++) {
            if (!goesOn(text.substring(0, i + 1))) return i;
        }
        return text.length();
    }

    private static boolean goesOn(String begun) {
        for (String closing : new String[] {"", ")", "))", ")))", "))))", ")))))", "))))))"}) {
            if (isText(begun + closing) || isText(begun + "p" + closing)) return true;
        }
        return false;
    }

    static int value(String text, int[] named) {
        for (String line : text.split(";")) {
            int q = line.indexOf('?');
            if (q < 0) return expression(line, named);
            if (expression(line.substring(0, q), named) != 0) return expression(line.substring(q + 1), named);
        }
        return 0;
    }

    private static int expression(String e, int[] named) {
        for (String joins : new String[] {"|", "&", "<=>", "+-", "*/%"}) {
            int at = lastJoin(e, joins);
            if (at > 0) {
                return joined(e.charAt(at), expression(e.substring(0, at), named),
                    expression(e.substring(at + 1), named));
            }
        }
        char first = e.charAt(0);
        if (first == '!') return expression(e.substring(1), named) == 0 ? 1 : 0;
        if (first == '-') return -expression(e.substring(1), named);
        if (first == '(') return expression(e.substring(1, e.length() - 1), named);
        if (Character.isDigit(first)) return Integer.parseInt(e);
        return named["pwxcnk".indexOf(first)];
    }

    /** The last join of these that stands outside of all brackets, and behind an operand. */
    private static int lastJoin(String e, String joins) {
        int open = 0;
        for (int i = e.length() - 1; i > 0; i--) {
            char c = e.charAt(i);
            if (c == ')') open++;
            if (c == '(') open--;
            boolean behind = Character.isLetterOrDigit(e.charAt(i - 1)) || e.charAt(i - 1) == ')';
            if (open == 0 && behind && joins.indexOf(c) >= 0) return i;
        }
        return -1;
    }

    private static int joined(char join, int a, int b) {
        switch (join) {
            case '|': return a != 0 | b != 0 ? 1 : 0;
            case '&': return a != 0 & b != 0 ? 1 : 0;
            case '<': return a < b ? 1 : 0;
            case '=': return a == b ? 1 : 0;
            case '>': return a > b ? 1 : 0;
            case '+': return a + b;
            case '-': return a - b;
            case '*': return a * b;
            case '/': return b == 0 ? 0 : a / b;
            default: return b == 0 ? 0 : a % b;
        }
    }
}
