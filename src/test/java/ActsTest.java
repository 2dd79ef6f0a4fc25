/** Promises 30 to 32: bodies, acts, the trace. */
public final class ActsTest {
    public static void main(String[] args) {
        body();
        actsOfAllKinds();
        traces();
        againstClasses();
        refused();
        Check.end("ActsTest");
    }

    private static void body() {
        LeftByLast x = new LeftByLast();
        Check.due("30: below", x.body(-1), -1);
        Check.due("30: above", x.body(8), -1);
        for (int i = 0; i < 50; i++) Check.due("30: body " + i, x.body(i % 8), i);
        Check.due("30: full", x.body(0), -3);
        Check.due("30: BAD ahead of FULL", x.body(8), -1);
        Check.due("30: how many", x.count(6), 50);
    }

    /** One body of each kind, so that its number n is its kind. */
    private static LeftByLast eight() {
        LeftByLast x = new LeftByLast();
        for (int kind = 0; kind < 8; kind++) x.body(kind);
        return x;
    }

    private static void actsOfAllKinds() {
        LeftByLast x = eight();
        int[][] want = {
            {10, 20, 10, 20 - (1 ^ 0)},
            {14, 28, 10 ^ 1, 28 - (1 ^ 1)},
            {12, -24, 10 ^ 2, -24 - (1 ^ 2)},
            {13, -28, (10 ^ 3) * 3, -28 - (1 ^ 3) * 3},
            {17, 34, (10 ^ 4) - 9, 34 - ((1 ^ 4) - 9)},
            {15, -32, (10 ^ 5) * 3, (-32 - (1 ^ 5) * 3) ^ 5},
            {32, 64, 10 ^ 6, 64 - (1 ^ 6)},
            {20, 40 + (2 ^ 7) - 12, (10 ^ 7) - 12, 40 + (2 ^ 7) - 12 - ((1 ^ 7) - 12) - 1},
        };
        for (int kind = 0; kind < 8; kind++) {
            for (int act = 0; act < 4; act++) {
                Check.due("31: kind " + kind + ", act " + act, x.act(kind, act, 10), want[kind][act]);
            }
        }
        Check.due("31: wraps", x.act(0, 1, Integer.MAX_VALUE), -2);
        Check.due("31: wraps by x + 1", x.act(3, 1, Integer.MAX_VALUE), -((Integer.MIN_VALUE + 3) * 2));
        Check.due("31: one body only", x.count(7), 4);
    }

    private static String traced(LeftByLast x) {
        StringBuilder all = new StringBuilder();
        for (int i = 0; i < x.count(7); i++) all.append(i == 0 ? "" : " ").append(x.trace(i));
        return all.toString();
    }

    private static void traces() {
        LeftByLast x = eight();
        String[] want = {
            "1", "10 1", "11", "2 10 1 11",
            "20 1", "10 20 1", "11", "2 10 20 1 11",
            "1", "30 10 1", "11", "2 30 10 1 11",
            "1", "41 30 10 1", "40 11", "2 41 30 10 1 40 11",
            "20 1", "10 20 1", "50 11 20 1", "2 10 20 1 50 11 20 1",
            "1", "41 30 10 1", "40 11", "60 2 41 30 10 1 40 11",
            "70 1", "10 70 1", "11", "2 10 70 1 11",
            "20 1", "80 10 20 1 50 11 20 1", "50 11 20 1", "81 2 80 10 20 1 50 11 20 1 50 11 20 1",
        };
        for (int i = 0; i < want.length; i++) {
            x.act(i / 4, i % 4, -3);
            Check.due("32: kind " + i / 4 + ", act " + i % 4, traced(x), want[i]);
            Check.due("32: behind", x.trace(x.count(7)), -1);
            Check.due("32: below", x.trace(-1), -1);
        }
        Check.due("32: far behind", x.trace(Integer.MAX_VALUE), -1);
    }

    private static void againstClasses() {
        Draws draws = new Draws(5);
        for (int i = 0; i < 6; i++) againstClasses(draws);
    }

    private static void againstClasses(Draws draws) {
        LeftByLast x = new LeftByLast();
        OracleActs y = new OracleActs();
        for (int i = 0; i < 50; i++) {
            int kind = draws.below(8);
            Check.due("30: body", x.body(kind), y.body(kind));
        }
        for (int i = 0; i < 24; i++) {
            int body = draws.below(50);
            int act = draws.below(4);
            int with = draws.anyInt();
            Check.due("31: act(" + body + ", " + act + ", " + with + ")", x.act(body, act, with), y.act(body, act, with));
            Check.due("32: how many ran", x.count(7), y.ran());
            for (int j = -1; j < 16; j++) Check.due("32: trace(" + j + ")", x.trace(j), y.trace(j));
        }
    }

    private static void refused() {
        int[][] bad = {{-1, 0}, {8, 0}, {0, -1}, {0, 4}, {Integer.MIN_VALUE, 2}, {3, Integer.MAX_VALUE}};
        for (int[] one : bad) {
            LeftByLast x = eight();
            x.act(5, 3, 7);
            Check.due("31: act(" + one[0] + ", " + one[1] + ")", x.act(one[0], one[1], 7), 0);
            Check.due("31: no trace then", x.count(7), 0);
            Check.due("32: no trace then", x.trace(0), -1);
        }
        Check.due("32: no act yet", new LeftByLast().trace(0), -1);
    }
}
