/** Numbers that look drawn but are the same in each run of the tests. */
final class Draws {
    private long state;

    Draws(long seed) {
        state = seed * 0x9E3779B97F4A7C15L + 1;
    }

    private long next() {
        state ^= state << 13;
        state ^= state >>> 7;
        state ^= state << 17;
        return state;
    }

    int below(int n) {
        return (int) Long.remainderUnsigned(next() >>> 11, n);
    }

    boolean oneIn(int n) {
        return below(n) == 0;
    }

    int from(int low, int high) {
        return low + below(high - low + 1);
    }

    int anyInt() {
        int[] edges = {Integer.MIN_VALUE, Integer.MAX_VALUE, -1, 0, 1, Integer.MIN_VALUE + 1, 100, -100};
        return oneIn(2) ? edges[below(edges.length)] : (int) next();
    }

    long anyLong() {
        long[] edges = {Long.MIN_VALUE, Long.MAX_VALUE, -1, 0, 1, 127, 128, -128, -129, 255, 256, 32768, 1L << 31,
            1L << 32};
        return oneIn(2) ? edges[below(edges.length)] : next();
    }

    /** A text by the law's grammar, nearly always; sometimes with a byte that is another. */
    String text() {
        StringBuilder all = new StringBuilder();
        int lines = from(1, oneIn(3) ? 4 : 2);
        for (int i = 0; i < lines; i++) {
            if (i > 0) all.append(';');
            all.append(joined(0, 2));
            if (oneIn(2)) all.append('?').append(joined(0, 2));
        }
        if (all.length() > 120 && !oneIn(4)) return operand(0);
        if (all.length() > 120) all.setLength(from(118, 120));
        if (oneIn(4)) spoil(all);
        return all.toString();
    }

    private void spoil(StringBuilder text) {
        String signs = "pwxcnk019()!-+*/%<=>&|?;y ";
        int at = below(text.length());
        if (oneIn(3)) text.setLength(at);
        else if (oneIn(2)) text.setCharAt(at, signs.charAt(below(signs.length())));
        else if (text.length() < 120) text.insert(at, signs.charAt(below(signs.length())));
    }

    private String joined(int level, int depth) {
        String[] joins = {"|", "&", "<=>", "+-", "*/%"};
        if (level == 5) return operand(depth);
        StringBuilder all = new StringBuilder(joined(level + 1, depth));
        if (oneIn(level < 3 ? 4 : 3)) {
            all.append(joins[level].charAt(below(joins[level].length()))).append(joined(level + 1, depth));
        }
        return all.toString();
    }

    private String operand(int depth) {
        int what = below(depth > 0 ? 8 : 6);
        if (what < 4) return "" + "pwxcnk".charAt(below(6));
        if (what < 6) return "" + from(0, oneIn(3) ? 9999 : 9);
        if (what == 6) return (oneIn(2) ? "!" : "-") + operand(depth - 1);
        return "(" + joined(0, depth - 1) + ")";
    }
}
