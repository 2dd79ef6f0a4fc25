import java.lang.reflect.Method;
import java.util.ArrayList;
import java.util.Arrays;
import java.util.List;

/** Each call with all that lies at a bound, on objects that hold nothing, some, or as much as they can. */
public final class EdgesTest {
    private static final long[] FEW = {Integer.MIN_VALUE, -1, 0, 1, 3, 7, 60, 99, Integer.MAX_VALUE};
    private static final long[] MANY = {Integer.MIN_VALUE, Integer.MIN_VALUE + 1, -100, -14, -10, -2, -1, 0, 1, 2, 3, 4, 5, 6, 7,
        8, 9, 10, 11, 13, 14, 15, 19, 20, 21, 23, 24, 29, 30, 31, 32, 33, 40, 49, 50, 51, 59, 60, 61, 66, 67, 70, 76, 77, 98,
        99, 100, 119, 120, 127, 128, 255, 256, 1000, Integer.MAX_VALUE - 1, Integer.MAX_VALUE};
    private static final long[] SOME = {Integer.MIN_VALUE, -2, -1, 0, 1, 2, 4, 5, 6, 7, 8, 10, 12, 20, 50, 51, 60, 61, 99, 100,
        Integer.MAX_VALUE};
    private static final long[] FEWEST = {-1, 0, 2, 3, 6, Integer.MAX_VALUE};

    private LeftByLast x;
    private Oracle y;
    private final List<String> told = new ArrayList<>();

    public static void main(String[] args) {
        new EdgesTest().allCalls();
        Check.end("EdgesTest");
    }

    private void allCalls() {
        for (int state = 0; state < 4; state++) {
            for (Method m : Calls.of(LeftByLast.class).values()) {
                combine(state, m, new long[m.getParameterCount()], 0);
            }
        }
    }

    private void combine(int state, Method m, long[] values, int from) {
        if (from == values.length) {
            once(state, m.getName(), values);
            return;
        }
        long[][] bounds = {{}, MANY, SOME, FEW, {}, FEWEST};
        for (long v : bounds[values.length]) {
            values[from] = v;
            combine(state, m, values, from + 1);
        }
    }

    private void once(int state, String name, long[] values) {
        x = new LeftByLast();
        y = new Oracle();
        told.clear();
        furnish(state);
        ask(name, values);
        for (int what = 0; what < 8; what++) ask("count", what);
        ask("day", 3);
        ask("visit");
        ask("undo");
    }

    private void furnish(int state) {
        if (state == 0) return;
        int[][] sizes = {{}, {1, 1}, {4, 3}, {8, 7}};
        for (int t = 0; t < sizes[state][0]; t++) ask("thing", t * 11);
        for (int k = 0; k < sizes[state][1]; k++) {
            ask("customer", 99 - k * 15, 1 + k % 2);
            ask("mend", k, 2, (k + 1) % 5);
            ask("mend", 10 * k + k, 3, 99 - k);
        }
        ask("mend", 0, 4, state * 3);
        ask("body", state * 2);
        ask("act", 0, 3, 60);
        for (int i = 0; i < (state == 3 ? 120 : state); i++) ask("feed", i % 2 == 0 ? 'p' : '+');
        if (state == 1) return;
        if (state == 2) ask("image");
        ask("visit");
        if (state == 2) ask("undo");
        ask("row", 0, 0, 6);
        for (int i = 0; i < 6; i++) ask("put", 0, i, i - 1);
        ask("keep", 1, 0);
        ask("row", 2, state, state == 3 ? 60 : 3);
        ask("row", 3, 0, 3);
    }

    private void ask(String name, long... values) {
        told.add(name + Arrays.toString(values));
        long got = Calls.answer(x, name, values);
        long want = Calls.answer(y, name, values);
        Check.due(got == want ? name : String.join("; ", told), got, want);
    }
}
