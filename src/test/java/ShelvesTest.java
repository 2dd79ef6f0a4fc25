/** Promises 33 to 39: shelves, rows, what is taken from them, and how many there are of all. */
public final class ShelvesTest {
    public static void main(String[] args) {
        keep();
        row();
        put();
        sorts();
        element();
        shift();
        shiftOverItself();
        shiftRefused();
        taken();
        count();
        Check.end("ShelvesTest");
    }

    private static void keep() {
        LeftByLast x = new LeftByLast();
        Check.due("33: no body yet", x.keep(0, 0), -1);
        x.body(4);
        Check.due("33: a taking", x.keep(5, 0), 1);
        Check.due("33: held", x.taken(5, 4), 4);
        Check.due("33: nothing", x.keep(5, -1), 1);
        Check.due("33: none held", x.taken(5, 4), -11);
        x.row(0, 0, 3);
        Check.due("33: in a row's place", x.keep(0, 0), 1);
        Check.due("33: no row", x.put(0, 0, 1), -12);
        Check.due("33: below", x.keep(0, -2), -1);
        Check.due("33: above", x.keep(0, 1), -1);
        Check.due("33: shelf below", x.keep(-1, 0), -1);
        Check.due("33: shelf above", x.keep(6, 0), -1);
        Check.due("33: still held", x.taken(0, 4), 4);
    }

    private static void row() {
        LeftByLast x = new LeftByLast();
        for (int sort = 0; sort < 5; sort++) Check.due("34: sort " + sort, x.row(sort, sort, 60), 1);
        Check.due("34: empty", x.row(5, 3, 0), 1);
        Check.due("34: sort below", x.row(0, -1, 3), -1);
        Check.due("34: sort above", x.row(0, 5, 3), -1);
        Check.due("34: n above", x.row(0, 0, 61), -1);
        Check.due("34: n below 0", x.row(0, 0, -1), -14);
        Check.due("34: BAD ahead of -14", x.row(0, 5, -1), -1);
        Check.due("34: shelf", x.row(6, 0, -1), -1);
        Check.due("34: shelf below", x.row(-1, 0, 1), -1);
        Check.due("34: n far below", x.row(0, 0, Integer.MIN_VALUE), -14);
        Check.due("34: the row stays", x.put(0, 59, 9), 1);
        x.row(0, 0, 60);
        Check.due("34: 0 at first, again", x.element(0, 59), 0);
    }

    private static void put() {
        LeftByLast x = new LeftByLast();
        x.row(1, 2, 3);
        x.body(0);
        x.keep(2, 0);
        Check.due("35: first", x.put(1, 0, 5), 1);
        Check.due("35: last", x.put(1, 2, 7), 1);
        Check.due("35: elements", Texts.elements(x, 1, 3), "5 0 7");
        Check.due("35: shelf", x.put(6, 0, 1), -1);
        Check.due("35: shelf below", x.put(-1, 0, 1), -1);
        Check.due("35: nothing", x.put(0, 0, 1), -11);
        Check.due("35: a taking", x.put(2, 0, 1), -12);
        Check.due("35: a taking, ahead of the place", x.put(2, -1, 1), -12);
        Check.due("35: place below", x.put(1, -1, 1), -13);
        Check.due("35: place above", x.put(1, 3, 1), -13);
        Check.due("35: place far above", x.put(1, Integer.MAX_VALUE, 1), -13);
        x.row(1, 2, 0);
        Check.due("35: an empty row", x.put(1, 0, 1), -13);
    }

    private static void sorts() {
        LeftByLast x = new LeftByLast();
        long[] values = {0, 1, -1, 127, 128, -129, 32767, 32768, 65536, 1L << 31, -(1L << 31) - 1, 1L << 32,
            Long.MAX_VALUE, Long.MIN_VALUE, 256};
        for (long v : values) {
            long[] want = {(byte) v, (short) v, (int) v, v, v == 0 ? 0 : 1};
            for (int sort = 0; sort < 5; sort++) {
                x.row(sort, sort, 2);
                x.put(sort, 1, v);
                Check.due("35: sort " + sort + " of " + v, x.element(sort, 1), want[sort]);
                Check.due("35: beside", x.element(sort, 0), 0);
            }
        }
    }

    private static void element() {
        LeftByLast x = new LeftByLast();
        x.row(1, 3, 2);
        x.body(0);
        x.keep(2, 0);
        x.put(1, 1, -13);
        Check.due("36: an element", x.element(1, 1), -13);
        int[][] bad = {{-1, 0}, {6, 0}, {0, 0}, {2, 0}, {1, -1}, {1, 2}};
        for (int[] one : bad) {
            Check.due("36: element(" + one[0] + ", " + one[1] + ")", x.element(one[0], one[1]), Long.MIN_VALUE);
        }
    }

    private static LeftByLast rows() {
        LeftByLast x = new LeftByLast();
        Texts.bytes(x, 0, 1, 2, 3, 4, 5);
        Texts.bytes(x, 1, 9, 9, 9);
        return x;
    }

    private static void shift() {
        LeftByLast x = rows();
        Check.due("37: two", x.shift(0, 3, 1, 1, 2), 2);
        Check.due("37: come", Texts.elements(x, 1, 3), "9 4 5");
        Check.due("37: stay, too", Texts.elements(x, 0, 5), "1 2 3 4 5");
        Check.due("37: none", x.shift(0, 5, 1, 3, 0), 0);
        Check.due("37: all", x.shift(1, 0, 0, 2, 3), 3);
        Check.due("37: all come", Texts.elements(x, 0, 5), "1 2 9 4 5");
        for (int sort = 1; sort < 5; sort++) {
            x.row(2, sort, 2);
            x.row(3, sort, 2);
            x.put(2, 0, 1);
            Check.due("37: sort " + sort, x.shift(2, 0, 3, 1, 1), 1);
            Check.due("37: of sort " + sort, Texts.elements(x, 3, 2), "0 1");
        }
    }

    private static void shiftOverItself() {
        LeftByLast x = rows();
        Check.due("37: up", x.shift(0, 0, 0, 1, 4), 4);
        Check.due("37: as they were", Texts.elements(x, 0, 5), "1 1 2 3 4");
        Check.due("37: down", x.shift(0, 2, 0, 0, 3), 3);
        Check.due("37: as they were, down", Texts.elements(x, 0, 5), "2 3 4 3 4");
        Check.due("37: onto itself", x.shift(0, 0, 0, 0, 5), 5);
    }

    private static void shiftRefused() {
        LeftByLast x = rows();
        x.row(2, 1, 5);
        x.body(0);
        x.keep(3, 0);
        Check.due("37: shelf", x.shift(6, 0, 1, 0, 1), -1);
        Check.due("37: other shelf", x.shift(0, 0, -1, 0, 1), -1);
        Check.due("37: nothing", x.shift(4, 0, 1, 0, 1), -11);
        Check.due("37: nothing there", x.shift(0, 0, 4, 0, 1), -11);
        Check.due("37: nothing ahead of a taking", x.shift(3, 0, 4, 0, 1), -11);
        Check.due("37: unlike sorts", x.shift(0, 0, 2, 0, 1), -12);
        Check.due("37: a taking", x.shift(3, 0, 0, 0, 1), -12);
        Check.due("37: to a taking", x.shift(0, 0, 3, 0, 1), -12);
        Check.due("37: two takings", x.shift(3, 0, 3, 0, 0), -12);
        Check.due("37: -12 ahead of -13", x.shift(0, 9, 2, 0, 1), -12);
        int[][] places = {{-1, 0, 1}, {0, -1, 1}, {5, 0, 1}, {0, 3, 1}, {3, 0, 3}, {0, 1, 3}, {6, 0, 0}, {0, 4, 0},
            {0, 0, -1}, {0, 0, Integer.MAX_VALUE}, {Integer.MAX_VALUE, 0, Integer.MAX_VALUE}, {0, Integer.MIN_VALUE, 1}};
        for (int[] p : places) {
            Check.due("37: shift(0, " + p[0] + ", 1, " + p[1] + ", " + p[2] + ")", x.shift(0, p[0], 1, p[1], p[2]), -13);
        }
        Check.due("37: nothing changed", Texts.elements(x, 1, 3), "9 9 9");
    }

    private static void taken() {
        LeftByLast x = new LeftByLast();
        String[] under = {"0", "01", "02", "023", "014", "0235", "06", "0147"};
        for (int kind = 0; kind < 8; kind++) {
            x.body(kind);
            x.keep(0, kind);
            for (int k = 0; k < 8; k++) {
                boolean is = under[kind].indexOf('0' + k) >= 0;
                Check.due("38: kind " + kind + " for " + k, x.taken(0, k), is ? kind : -12);
            }
        }
        x.row(1, 0, 1);
        Check.due("38: a row", x.taken(1, 0), -12);
        Check.due("38: nothing", x.taken(2, 0), -11);
        Check.due("38: shelf", x.taken(6, 0), -1);
        Check.due("38: shelf below", x.taken(-1, 0), -1);
        Check.due("38: kind below", x.taken(0, -1), -1);
        Check.due("38: kind above, ahead of -11", x.taken(2, 8), -1);
    }

    private static void count() {
        LeftByLast x = new LeftByLast();
        for (int i = 0; i < 3; i++) x.thing(i);
        for (int i = 0; i < 4; i++) x.customer(50, 2);
        x.mend(12, 3, 60);
        x.mend(2, 3, 60);
        x.mend(1, 3, 60);
        x.mend(2, 3, 61);
        x.mend(2, 0, 8);
        x.undo();
        for (int i = 0; i < 3; i++) x.visit();
        for (int i = 0; i < 5; i++) x.feed('p');
        for (int i = 0; i < 6; i++) x.body(0);
        x.act(0, 3, 1);
        int[] want = {3, 2, 4, 3, 5, 4, 6, 4};
        for (int what = 0; what < 8; what++) Check.due("39: count(" + what + ")", x.count(what), want[what]);
        Check.due("39: below", x.count(-1), -1);
        Check.due("39: above", x.count(8), -1);
    }
}
