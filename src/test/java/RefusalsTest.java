import java.util.function.ToLongFunction;

/** "Answers, of several the one named first ..": which one; and "What is answered so changes nothing." */
public final class RefusalsTest {
    private static final int LEAST = Integer.MIN_VALUE, MOST = Integer.MAX_VALUE;
    private static final int BAD = -1, NOT = -2, FULL = -3, STATE = -5, ABSENT = -11, UNLIKE = -12, NO_PLACE = -13, BELOW_0 = -14;

    private enum Shop { OPEN, FULL, LADEN, EMPTY, OVER }

    public static void main(String[] args) {
        ofThings();
        ofThought();
        ofDeeds();
        ofToldDays();
        ofActs();
        ofShelves();
        whenFull();
        whenEmpty();
        whenAllIsOver();
        theOneNamedFirst();
        whatAsksChangesNothing();
        Check.end("RefusalsTest");
    }

    /** Something of all: one has been, a change may be undone and two done again, an image, bytes, bodies, rows. */
    private static LeftByLast open() {
        LeftByLast x = Texts.shop(new int[] {10, 20, 30, 15}, 40, 1, 60, 2, 50, 1);
        Texts.wishes(x, 0, 12, 9, 8, 5);
        Texts.wishes(x, 1, 30, 31, 32, 20);
        Texts.wishes(x, 2, 14, 27, 38, 19);
        x.mend(2, 2, 4);
        x.mend(0, 4, 1);
        Texts.law(x, "w-p;n");
        x.swap(12);
        x.image();
        x.visit();
        x.mend(1, 0, 21);
        x.mend(2, 1, 51);
        x.mend(0, 3, 13);
        x.undo();
        x.undo();
        for (char letter : "k+".toCharArray()) x.feed(letter);
        for (int kind = 0; kind < 8; kind++) x.body(kind);
        x.act(5, 1, 3);
        Texts.bytes(x, 0, 1, 2, 3, 9, 9, 9);
        x.keep(1, 7);
        x.row(2, 1, 3);
        x.row(4, 3, 2);
        x.put(4, 1, 77);
        x.row(5, 4, 0);
        return x;
    }

    /** As many things and customers as there can be. */
    private static LeftByLast full() {
        LeftByLast x = new LeftByLast();
        for (int t = 0; t < 8; t++) x.thing(10 + t);
        for (int k = 0; k < 7; k++) x.customer(20 + k, 1);
        Texts.bytes(x, 0, 5, 1, 0);
        return x;
    }

    /** As many bytes and bodies as there can be. */
    private static LeftByLast laden(LeftByLast x) {
        for (int i = 0; i < 120; i++) x.feed('p');
        for (int i = 0; i < 50; i++) x.body(i % 8);
        return x;
    }

    /** All have been, nothing may be done again. */
    private static LeftByLast over() {
        LeftByLast x = Texts.shop(new int[] {10, 20}, 40, 1, 60, 2);
        Texts.wishes(x, 1, 30, 31);
        x.visit();
        x.visit();
        return x;
    }

    private static LeftByLast furnished(Shop how) {
        switch (how) {
            case OPEN: return open();
            case FULL: return full();
            case LADEN: return laden(new LeftByLast());
            case OVER: return over();
            default: return new LeftByLast();
        }
    }

    /** Behind the call all is as it is in an object that was not asked. */
    private static void refused(Shop how, String call, long want, ToLongFunction<LeftByLast> asks) {
        LeftByLast asked = furnished(how);
        Check.due(how + ": " + call, asks.applyAsLong(asked), want);
        Check.due(how + ": " + call + " changes nothing", allOf(asked), allOf(furnished(how)));
    }

    private static void open(String call, long want, ToLongFunction<LeftByLast> asks) {
        refused(Shop.OPEN, call, want, asks);
    }

    /** All that can be asked; what has to be changed to be known comes last. */
    private static String allOf(LeftByLast x) {
        StringBuilder all = new StringBuilder();
        for (int what = 0; what < 8; what++) tell(all, x.count(what));
        for (int i = 0; i < 15; i++) tell(all, x.trace(i));
        for (int s = 0; s < 6; s++) {
            tell(all, x.taken(s, 0));
            for (int i = 0; i < 7; i++) tell(all, x.element(s, i));
        }
        all.append("| ").append(shopOf(x));
        for (int k = 0; k < x.count(2); k++) tell(all, x.led(k, 0), x.led(k, 1));
        // A byte more at the tape's end makes a law of what is on it.
        tell(all, x.feed('n'), x.law(), x.day(3), x.visit(), x.of(0, 32));
        int undone = 0;
        while (undone < 41 && x.undo() >= 0) undone++;
        tell(all, undone);
        all.append("| ").append(pricesOf(x));
        int again = 0;
        while (again < 41 && x.redo() >= 0) again++;
        tell(all, again);
        all.append("| ").append(pricesOf(x));
        tell(all, x.evening(), x.back(), x.count(3));
        return all.append("| ").append(pricesOf(x)).toString();
    }

    private static String shopOf(LeftByLast x) {
        StringBuilder all = new StringBuilder();
        for (int k = 0; k < x.count(2); k++) {
            tell(all, x.of(k, 11), x.of(k, 12), x.of(k, 13), x.of(k, 14));
            for (int t = 0; t < x.count(0) && x.count(2) < 7; t++) tell(all, x.of(10 * k + t, 20));
        }
        tell(all, x.of(0, 31), x.of(0, 32), x.day(0), x.day(1), x.day(2), x.day(3));
        return all.append(pricesOf(x)).toString();
    }

    private static String pricesOf(LeftByLast x) {
        StringBuilder all = new StringBuilder();
        for (int t = 0; t < x.count(0); t++) tell(all, x.of(t, 0), x.of(t, 1));
        for (int k = 0; k < x.count(2); k++) tell(all, x.of(k, 10), x.of(k, 13));
        tell(all, x.of(0, 20), x.of(0, 30), x.of(0, 31));
        return all.toString();
    }

    private static void tell(StringBuilder all, long... values) {
        for (long v : values) all.append(v).append(' ');
    }

    private static void ofThings() {
        for (int price : new int[] {LEAST, -1, 100, MOST}) open("thing of " + price, BAD, x -> x.thing(price));
        for (int coin : new int[] {LEAST, -1, 100, MOST}) open("coin " + coin, BAD, x -> x.customer(coin, 1));
        for (int hands : new int[] {LEAST, -1, 0, 3, MOST}) open("hands " + hands, BAD, x -> x.customer(5, hands));
        for (int s : new int[] {LEAST, -1, 6, MOST}) open("customers from " + s, BAD, x -> x.customers(s, 0, 1));
        for (int n : new int[] {LEAST, -1, 0, 8, MOST}) open(n + " customers", BAD, x -> x.customers(0, 0, n));
        for (int s : new int[] {1, 2, 4, 5}) open("customers from " + s, UNLIKE, x -> x.customers(s, 0, 1));
        open("customers from nothing", 0, x -> x.customers(3, 0, 1));
        for (int i : new int[] {LEAST, -1, 1, 2, 3, 4, 5, 6, MOST}) open("customers from place " + i, 0, x -> x.customers(0, i, 2));
        int[][] mends = {{-1, 0}, {4, 0}, {-1, 1}, {3, 1}, {-1, 2}, {3, 2}, {-1, 3}, {4, 3}, {30, 3}, {1, 4}, {-1, 4}, {0, -1},
            {0, 5}, {LEAST, 0}, {MOST, 3}};
        for (int[] m : mends) open("mend " + m[0] + ", " + m[1], BAD, x -> x.mend(m[0], m[1], 1));
        int[] most = {99, 99, 4, 99, 9};
        for (int what = 0; what <= 4; what++) {
            int told = what;
            for (int v : new int[] {LEAST, -1, most[what] + 1, MOST}) open("mend to " + v, BAD, x -> x.mend(0, told, v));
        }
        int[][] ofs = {{-1, 0}, {4, 1}, {3, 10}, {-1, 14}, {4, 20}, {30, 20}, {1, 30}, {-1, 31}, {1, 32}, {0, 2}, {0, 33}, {0, -1}};
        for (int[] o : ofs) open("of " + o[0] + ", " + o[1], BAD, x -> x.of(o[0], o[1]));
        for (int ij : new int[] {LEAST, -1, 0, 11, 3, 30, MOST}) open("swap " + ij, BAD, x -> x.swap(ij));
        for (int ij : new int[] {1, 10, 2, 20, 12, 21}) open("swap " + ij, STATE, x -> x.swap(ij));
        for (int letter : new int[] {LEAST, -1, 256, MOST}) open("feed " + letter, BAD, x -> x.feed(letter));
    }

    private static void ofThought() {
        for (int k : new int[] {LEAST, -1, 3, MOST}) {
            open("buys " + k, BAD, x -> x.buys(k));
            open("place " + k, -2000000000, x -> x.place(k));
            open("enough " + k, BAD, x -> x.enough(k));
        }
        for (int what : new int[] {LEAST, -1, 4, MOST}) open("day " + what, BAD, x -> x.day(what));
        for (int measure : new int[] {LEAST, -1, 3, MOST}) {
            open("order by " + measure, BAD, x -> x.order(measure, 0));
            open("change by " + measure, BAD, x -> x.change(measure));
        }
        for (int k : new int[] {LEAST, -2, 3, MOST}) open("order of " + k, BAD, x -> x.order(0, k));
        for (int kn : new int[] {LEAST, -1, 4, 9, 30, MOST}) open("friends " + kn, BAD, x -> x.friends(kn));
        for (int what : new int[] {LEAST, -1, 2, MOST}) open("nephew " + what, BAD, x -> x.nephew(what));
        for (int t : new int[] {LEAST, -1, 4, MOST}) open("price " + t, BAD, x -> x.price(t));
    }

    private static void ofDeeds() {
        for (int k : new int[] {LEAST, -1, 3, MOST}) open("led " + k, BAD, x -> x.led(k, 0));
        for (int what : new int[] {LEAST, -1, 2, MOST}) open("led 0, " + what, BAD, x -> x.led(0, what));
        open("led, not yet", STATE, x -> x.led(1, 0));
        open("led, not yet", STATE, x -> x.led(2, 1));
    }

    private static void ofToldDays() {
        for (int n : new int[] {LEAST, -1, 0, 51, MOST}) open("drawn " + n, BAD, x -> x.drawn(1, n, 0));
        for (int k : new int[] {LEAST, -2, 3, MOST}) open("drawn of " + k, BAD, x -> x.drawn(1, 5, k));
        for (int s : new int[] {LEAST, -1, 6, MOST}) {
            open("judge " + s, BAD, x -> x.judge(s));
            open("whose " + s, BAD, x -> x.whose(s));
        }
        open("judge of nothing", ABSENT, x -> x.judge(3));
        open("whose of nothing", ABSENT, x -> x.whose(3));
        for (int s : new int[] {1, 2, 4, 5}) {
            open("judge of what is no bytes, " + s, UNLIKE, x -> x.judge(s));
            open("whose of what is no bytes, " + s, UNLIKE, x -> x.whose(s));
        }
    }

    private static void ofActs() {
        for (int kind : new int[] {LEAST, -1, 8, MOST}) open("body " + kind, BAD, x -> x.body(kind));
        for (int i : new int[] {LEAST, -1, 4, 24, MOST}) open("trace " + i, BAD, x -> x.trace(i));
    }

    private static void ofShelves() {
        for (int s : new int[] {LEAST, -1, 6, MOST}) {
            open("keep on " + s, BAD, x -> x.keep(s, 0));
            open("row on " + s, BAD, x -> x.row(s, 0, 1));
            open("put on " + s, BAD, x -> x.put(s, 0, 1));
            open("element of " + s, Long.MIN_VALUE, x -> x.element(s, 0));
            open("shift from " + s, BAD, x -> x.shift(s, 0, 0, 1, 1));
            open("shift to " + s, BAD, x -> x.shift(0, 0, s, 1, 1));
            open("taken from " + s, BAD, x -> x.taken(s, 0));
        }
        for (int body : new int[] {LEAST, -2, 8, MOST}) open("keep " + body, BAD, x -> x.keep(0, body));
        for (int sort : new int[] {LEAST, -1, 5, MOST}) open("row of sort " + sort, BAD, x -> x.row(0, sort, 1));
        for (int n : new int[] {61, MOST}) open("row of " + n, BAD, x -> x.row(0, 0, n));
        for (int n : new int[] {LEAST, -1}) open("row of " + n, BELOW_0, x -> x.row(0, 0, n));
        open("put on nothing", ABSENT, x -> x.put(3, 0, 1));
        open("put on a taking", UNLIKE, x -> x.put(1, 0, 1));
        for (int i : new int[] {LEAST, -1, 6, 60, MOST}) open("put at " + i, NO_PLACE, x -> x.put(0, i, 1));
        open("put on none", NO_PLACE, x -> x.put(5, 0, 1));
        open("element of nothing", Long.MIN_VALUE, x -> x.element(3, 0));
        open("shift from nothing", ABSENT, x -> x.shift(3, 0, 0, 1, 1));
        open("shift to nothing", ABSENT, x -> x.shift(0, 0, 3, 1, 1));
        open("shift to a taking", UNLIKE, x -> x.shift(0, 0, 1, 0, 1));
        open("shift from a taking", UNLIKE, x -> x.shift(1, 0, 0, 0, 1));
        open("shift to another sort", UNLIKE, x -> x.shift(0, 0, 2, 0, 1));
        int[][] shifts = {{-1, 0, 1}, {0, -1, 1}, {6, 0, 1}, {0, 6, 1}, {7, 0, 0}, {0, 7, 0}, {3, 0, 4}, {0, 3, 4}, {0, 1, -1},
            {1, 0, 6}, {0, 1, MOST}};
        for (int[] s : shifts) {
            open("shift " + s[2] + " from " + s[0] + " to " + s[1], NO_PLACE, x -> x.shift(0, s[0], 0, s[1], s[2]));
        }
        open("taken from nothing", ABSENT, x -> x.taken(3, 0));
        open("taken from a row", UNLIKE, x -> x.taken(0, 0));
        open("taken for another kind", UNLIKE, x -> x.taken(1, 2));
        for (int k : new int[] {LEAST, -1, 8, MOST}) open("taken for " + k, BAD, x -> x.taken(1, k));
        for (int what : new int[] {LEAST, -1, 8, MOST}) open("count " + what, BAD, x -> x.count(what));
    }

    /** "FULL (-3)". */
    private static void whenFull() {
        refused(Shop.FULL, "a ninth thing", FULL, x -> x.thing(5));
        refused(Shop.FULL, "an eighth customer", FULL, x -> x.customer(5, 1));
        refused(Shop.FULL, "an eighth customer from a row", 0, x -> x.customers(0, 0, 1));
        refused(Shop.LADEN, "a 121st byte", FULL, x -> x.feed('w'));
        refused(Shop.LADEN, "a 51st body", FULL, x -> x.body(1));
    }

    private static void whenEmpty() {
        refused(Shop.EMPTY, "visit", STATE, LeftByLast::visit);
        refused(Shop.EMPTY, "back", STATE, LeftByLast::back);
        refused(Shop.EMPTY, "undo", STATE, LeftByLast::undo);
        refused(Shop.EMPTY, "redo", STATE, LeftByLast::redo);
        refused(Shop.EMPTY, "evening", 0, LeftByLast::evening);
        refused(Shop.EMPTY, "law", -100, LeftByLast::law);
        refused(Shop.EMPTY, "act", 0, x -> x.act(0, 0, 0));
        refused(Shop.EMPTY, "nephew", NOT, x -> x.nephew(0));
        refused(Shop.EMPTY, "riseFor", NOT, LeftByLast::riseFor);
    }

    /** "STATE (-5): as told". */
    private static void whenAllIsOver() {
        refused(Shop.OVER, "visit", STATE, LeftByLast::visit);
        refused(Shop.OVER, "back", STATE, LeftByLast::back);
        refused(Shop.OVER, "redo", STATE, LeftByLast::redo);
        refused(Shop.OVER, "swap", STATE, x -> x.swap(1));
    }

    /** "of several the one named first", call by call. */
    private static void theOneNamedFirst() {
        LeftByLast x = laden(full());
        x.visit();
        x.keep(1, 0);
        x.row(2, 1, 3);
        Check.due("2: BAD, FULL", x.thing(100), BAD);
        Check.due("3: BAD, FULL", x.customer(100, 1), BAD);
        Check.due("4: BAD, missing", x.customers(3, 0, 0), BAD);
        Check.due("4: BAD, -12", x.customers(1, 0, 8), BAD);
        Check.due("4: -12, no place", x.customers(2, 9, 1), UNLIKE);
        Check.due("4: -12, FULL", x.customers(2, 0, 1), UNLIKE);
        Check.due("7: BAD, STATE", x.swap(11), BAD);
        Check.due("7: BAD of another place, STATE", x.swap(70), BAD);
        Check.due("8: BAD, FULL", x.feed(256), BAD);
        Check.due("15: BAD, NOT", x.friends(8), BAD);
        Check.due("22: BAD, STATE", x.led(6, 2), BAD);
        Check.due("30: BAD, FULL", x.body(8), BAD);
        Check.due("34: BAD, -14", x.row(0, 5, -1), BAD);
        Check.due("34: BAD of the shelf, -14", x.row(6, 0, -1), BAD);
        Check.due("35: BAD, -13", x.put(6, -1, 1), BAD);
        Check.due("35: -11, -13", x.put(3, -1, 1), ABSENT);
        Check.due("35: -12, -13", x.put(1, -1, 1), UNLIKE);
        Check.due("37: BAD, -11", x.shift(3, 0, 6, 0, 0), BAD);
        Check.due("37: BAD, -12", x.shift(6, 0, 1, 0, 0), BAD);
        Check.due("37: -11, -12", x.shift(1, 0, 3, 0, 0), ABSENT);
        Check.due("37: -11 of the first, -12", x.shift(3, 0, 1, 0, 0), ABSENT);
        Check.due("37: -11, -13", x.shift(0, -1, 3, 0, 0), ABSENT);
        Check.due("37: -12, -13", x.shift(0, -1, 2, 9, -1), UNLIKE);
        Check.due("38: BAD, -11", x.taken(3, 8), BAD);
        Check.due("38: BAD, -12", x.taken(0, -1), BAD);
    }

    /** What is asked in thought, or only told, leaves all as it is, too. */
    private static void whatAsksChangesNothing() {
        asks("buys", x -> x.buys(1));
        asks("day", x -> x.day(1));
        for (int measure = 0; measure <= 2; measure++) {
            int told = measure;
            asks("order " + measure, x -> x.order(told, 2));
            asks("change " + measure, x -> x.change(told));
        }
        asks("place", x -> x.place(1));
        for (int kn : new int[] {0, 13, 22}) asks("friends " + kn, x -> x.friends(kn));
        asks("nephew", x -> x.nephew(0));
        for (int t = 0; t < 4; t++) {
            int told = t;
            asks("price " + t, x -> x.price(told));
        }
        for (int k = 0; k < 3; k++) {
            int told = k;
            asks("enough " + k, x -> x.enough(told));
        }
        asks("riseFor", LeftByLast::riseFor);
        asks("drawn", x -> x.drawn(7, 50, -1));
        asks("judge", x -> x.judge(0));
        asks("whose", x -> x.whose(0));
        asks("mend, the same", x -> x.mend(0, 0, x.of(0, 0)));
        asks("shift of none", x -> x.shift(0, 6, 0, 6, 0));
        asks("shift onto itself", x -> x.shift(0, 1, 0, 1, 5));
    }

    private static void asks(String call, ToLongFunction<LeftByLast> asks) {
        refused(Shop.OPEN, call, asks.applyAsLong(open()), asks);
    }
}
