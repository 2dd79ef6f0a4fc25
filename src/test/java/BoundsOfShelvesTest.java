/** Each sentence of the terms' fourth part, and of promises 30 to 39, that names a bound: a test of its own. */
public final class BoundsOfShelvesTest {
    private static final int LEAST = Integer.MIN_VALUE, MOST = Integer.MAX_VALUE;
    private static final long LOWEST = Long.MIN_VALUE, HIGHEST = Long.MAX_VALUE;

    public static void main(String[] args) {
        bodyKinds();
        bodiesUntilFull();
        actsThatAreNot();
        actsThatWrap();
        theNumberOfTheLastBody();
        traceOfNoAct();
        traceBounds();
        traceOfTheLatest();
        traceAtMost();
        shelvesThatAreNot();
        shelvesAtFirst();
        keepBounds();
        rowSizes();
        rowOfZerosAtFirst();
        rowsOfTheirOwn();
        lowestBits();
        putRefused();
        elementRefused();
        elementThatIsTheLeast();
        shiftOfNone();
        shiftOfAll();
        shiftBeyond();
        shiftBelow();
        shiftOverlapping();
        shiftRefused();
        takenRefused();
        takenOfKinds();
        countBounds();
        countAtMost();
        Check.end("BoundsOfShelvesTest");
    }

    /** "of a KIND (0 .. 7) is kept: its number. BAD". */
    private static void bodyKinds() {
        LeftByLast x = new LeftByLast();
        Check.each("30: kind", x::body, -1, LEAST, -1, 8, 9, MOST);
        Check.due("39: none", x.count(6), 0);
        Check.due("30: the least kind", x.body(0), 0);
        Check.due("30: the most", x.body(7), 1);
        Check.due("39: two", x.count(6), 2);
    }

    /** "BODIES 0 .. 49"; "FULL". */
    private static void bodiesUntilFull() {
        LeftByLast x = new LeftByLast();
        for (int i = 0; i < 50; i++) {
            Check.due("33: not there yet, " + i, x.keep(0, i), -1);
            Check.due("30: body " + i, x.body((i + 3) % 8), i);
            Check.due("33: there, " + i, x.keep(0, i), 1);
        }
        Check.each("30: full, kind", x::body, -3, 0, 1, 7);
        Check.each("30: BAD ahead of FULL, kind", x::body, -1, LEAST, -1, 8, MOST);
        Check.due("39: fifty", x.count(6), 50);
        Check.due("33: no fiftieth", x.keep(0, 50), -1);
        Check.due("38: the last one's kind", x.taken(0, 0), 52 % 8);
    }

    private static LeftByLast eight() {
        LeftByLast x = new LeftByLast();
        for (int kind = 0; kind < 8; kind++) x.body(kind);
        return x;
    }

    /** "0, and no TRACE then: no such TAKING, ACT." */
    private static void actsThatAreNot() {
        LeftByLast x = eight();
        Check.each("31: body", body -> x.act(body, 0, 9), 0, LEAST, -1, 8, 49, 50, MOST);
        Check.each("31: act", act -> x.act(3, act, 9), 0, LEAST, -1, 4, 5, MOST);
        int[][] bad = {{-1, 0}, {8, 3}, {LEAST, 0}, {MOST, 3}, {0, -1}, {7, 4}, {0, LEAST}, {7, MOST}, {-1, -1}, {8, 4}};
        for (int[] one : bad) {
            String told = one[0] + ", " + one[1];
            Check.due("31: an act ahead of " + told, x.act(7, 3, 1), 20);
            Check.due("39: fourteen ran", x.count(7), 14);
            Check.due("31: act " + told, x.act(one[0], one[1], 1), 0);
            Check.due("39: none ran, " + told, x.count(7), 0);
            Check.each("32: no trace, i", x::trace, -1, -1, 0, 1, 13, 14, 23, 24);
        }
        LeftByLast none = new LeftByLast();
        Check.each("31: no bodies", body -> none.act(body, 0, 5), 0, LEAST, -1, 0, 1, 49, MOST);
    }

    /** "x (an int that wraps)". */
    private static void actsThatWrap() {
        LeftByLast x = eight();
        for (int v : new int[] {LEAST, LEAST + 1, -2, -1, 0, 1, 2, MOST - 1, MOST}) {
            int wished = v + 1 + 3;
            int planned = -((v + 1 + 3) * 2);
            int putByKind = (2 ^ 7) - (2 + 7 + 3);
            Check.due("31: takes, " + v, x.act(0, 0, v), v);
            Check.due("31: takes of WISHED, " + v, x.act(1, 0, v), wished);
            Check.due("31: takes of EMPTY, " + v, x.act(6, 0, v), (v + 6) * 2);
            Check.due("31: buys, " + v, x.act(0, 1, v), v * 2);
            Check.due("31: buys of SPITEFUL, " + v, x.act(2, 1, v), -((v + 2) * 2));
            Check.due("31: buys of PLANNED, " + v, x.act(3, 1, v), planned);
            Check.due("31: buys of DOUBLE, " + v, x.act(7, 1, v), (v + 7 + 3) * 2 + putByKind);
            Check.due("31: puts, " + v, x.act(0, 2, v), v);
            Check.due("31: puts of PLANNED, " + v, x.act(3, 2, v), (v ^ 3) * 3);
            Check.due("31: puts of KIND, " + v, x.act(4, 2, v), (v ^ 4) - (2 + 4 + 3));
            Check.due("31: tells, " + v, x.act(0, 3, v), v * 2 - 1);
            Check.due("31: tells of PAID, " + v, x.act(5, 3, v), (-((v + 1 + 5) * 2) - (1 ^ 5) * 3) ^ 5);
            Check.due("31: tells of DOUBLE, " + v, x.act(7, 3, v),
                (v + 7 + 3) * 2 + putByKind - ((1 ^ 7) - (2 + 7 + 3)) - 1);
        }
    }

    /** "n its number": of 49, too. */
    private static void theNumberOfTheLastBody() {
        LeftByLast x = new LeftByLast();
        for (int i = 0; i < 50; i++) x.body(0);
        for (int n = 0; n < 50; n++) {
            Check.due("31: takes of " + n, x.act(n, 0, 0), n);
            Check.due("31: puts of " + n, x.act(n, 2, 64), 64 ^ n);
        }
    }

    private static void traceOfNoAct() {
        LeftByLast x = eight();
        Check.each("32: no act yet, i", x::trace, -1, LEAST, -1, 0, 1, 23, 24, MOST);
        Check.due("39: none ran", x.count(7), 0);
    }

    /** "THE TRACE's i-th body. BAD." */
    private static void traceBounds() {
        int[] ran = {1, 2, 1, 4, 2, 3, 1, 5, 1, 3, 1, 5, 1, 4, 2, 7, 2, 3, 4, 8, 1, 4, 2, 8, 2, 3, 1, 5, 2, 8, 4, 14};
        LeftByLast x = eight();
        for (int i = 0; i < 32; i++) {
            x.act(i / 4, i % 4, 5);
            int n = ran[i];
            String told = "kind " + i / 4 + ", act " + i % 4;
            Check.due("39: so many ran, " + told, x.count(7), n);
            Check.due("32: the first there is, " + told, x.trace(0) > 0 ? 1 : 0, 1);
            Check.due("32: the last there is, " + told, x.trace(n - 1) > 0 ? 1 : 0, 1);
            Check.each("32: " + told + ", i", x::trace, -1, LEAST, -1, n, n + 1, 23, 24, MOST);
        }
    }

    /** "in the latest act()". */
    private static void traceOfTheLatest() {
        LeftByLast x = eight();
        x.act(7, 3, 1);
        x.act(0, 1, 1);
        Check.due("39: two ran", x.count(7), 2);
        Check.due("32: buys", x.trace(0), 10);
        Check.due("32: takes", x.trace(1), 1);
        Check.due("32: nothing of the act before", x.trace(2), -1);
        x.body(0);
        x.keep(0, 0);
        x.taken(0, 0);
        Check.due("39: no act but the latest", x.count(7), 2);
        x.act(0, 0, 1);
        Check.due("39: one ran", x.count(7), 1);
        Check.due("32: one", x.trace(0) * 10 + x.trace(1), 9);
    }

    /** "the first 24 are kept": fewer run in each act that there is. */
    private static void traceAtMost() {
        LeftByLast x = eight();
        int most = 0;
        for (int kind = 0; kind < 8; kind++) {
            for (int act = 0; act < 4; act++) {
                x.act(kind, act, -1);
                most = Math.max(most, x.count(7));
            }
        }
        Check.due("39: tells of DOUBLE", most, 14);
        x.act(7, 3, -1);
        int[] want = {81, 2, 80, 10, 20, 1, 50, 11, 20, 1, 50, 11, 20, 1};
        for (int i = 0; i < want.length; i++) Check.due("32: the body " + i, x.trace(i), want[i]);
    }

    /** "SHELVES 0 .. 5": of each call. */
    private static void shelvesThatAreNot() {
        LeftByLast x = new LeftByLast();
        x.body(0);
        for (int s = 0; s < 6; s++) x.row(s, 0, 3);
        int[] bad = {LEAST, LEAST + 1, -6, -1, 6, 7, 60, MOST};
        Check.each("33: keep on", s -> x.keep(s, 0), -1, bad);
        Check.each("33: keep nothing on", s -> x.keep(s, -1), -1, bad);
        Check.each("34: row on", s -> x.row(s, 0, 3), -1, bad);
        Check.each("35: put on", s -> x.put(s, 0, 3), -1, bad);
        Check.each("37: shift from", s -> x.shift(s, 0, 0, 0, 1), -1, bad);
        Check.each("37: shift to", s -> x.shift(0, 0, s, 0, 1), -1, bad);
        Check.each("38: taken from", s -> x.taken(s, 0), -1, bad);
        Check.each("4: customers from", s -> x.customers(s, 0, 1), -1, bad);
        Check.each("24: judge", x::judge, -1, bad);
        Check.each("25: whose", x::whose, -1, bad);
        for (int s : bad) Check.due("36: element of " + s, x.element(s, 0), LOWEST);
    }

    /** "each hold nothing (at first)". */
    private static void shelvesAtFirst() {
        LeftByLast x = new LeftByLast();
        for (int s = 0; s < 6; s++) {
            Check.due("35: put on " + s, x.put(s, 0, 1), -11);
            Check.due("36: element of " + s, x.element(s, 0), LOWEST);
            Check.due("37: shift from " + s, x.shift(s, 0, s, 0, 0), -11);
            Check.due("38: taken from " + s, x.taken(s, 0), -11);
            Check.due("24: judge of " + s, x.judge(s), -11);
            Check.due("25: whose of " + s, x.whose(s), -11);
            Check.due("4: customers from " + s, x.customers(s, 0, 1), 0);
        }
    }

    /** "A SHELF holds nothing (body -1), or a TAKING: 1. BAD." */
    private static void keepBounds() {
        LeftByLast x = new LeftByLast();
        Check.each("33: no bodies", body -> x.keep(0, body), -1, LEAST, -2, 0, 1, 49, 50, MOST);
        for (int s = 0; s < 6; s++) Check.due("33: nothing on " + s, x.keep(s, -1), 1);
        x.body(6);
        x.body(1);
        for (int s = 0; s < 6; s++) Check.due("33: a taking on " + s, x.keep(s, s % 2), 1);
        Check.each("33: two bodies", body -> x.keep(0, body), -1, LEAST, -2, 2, 49, 50, MOST);
        for (int s = 0; s < 6; s++) Check.due("38: on " + s, x.taken(s, 0), s % 2 == 0 ? 6 : 1);
        for (int s = 0; s < 6; s++) {
            Check.due("33: nothing on " + s + ", again", x.keep(s, -1), 1);
            Check.due("38: nothing on " + s, x.taken(s, 0), -11);
            if (s < 5) Check.due("38: still on " + (s + 1), x.taken(s + 1, 0), s % 2 == 0 ? 1 : 6);
        }
    }

    /** "0 .. 60 elements"; "BAD (sort, n above 60); -14." */
    private static void rowSizes() {
        LeftByLast x = new LeftByLast();
        Check.each("34: sort", sort -> x.row(0, sort, 3), -1, LEAST, -1, 5, 6, MOST);
        Check.each("34: n above 60", n -> x.row(0, 0, n), -1, 61, 62, 100, MOST);
        Check.each("34: a size below 0", n -> x.row(0, 0, n), -14, -1, -2, -60, LEAST);
        Check.each("34: BAD ahead of -14, sort", sort -> x.row(0, sort, -1), -1, LEAST, -1, 5, MOST);
        Check.each("34: BAD ahead of -14, shelf", s -> x.row(s, 0, -1), -1, LEAST, -1, 6, MOST);
        Check.due("38: still nothing", x.taken(0, 0), -11);
        for (int sort = 0; sort <= 4; sort++) {
            for (int n : new int[] {0, 1, 59, 60}) {
                Check.due("34: " + n + " of sort " + sort, x.row(sort, sort, n), 1);
                Check.due("35: the last of " + n, x.put(sort, n - 1, 1), n == 0 ? -13 : 1);
                Check.due("35: behind the last of " + n, x.put(sort, n, 1), -13);
                Check.due("36: behind the last of " + n, x.element(sort, n), LOWEST);
            }
        }
    }

    /** "0 at first (false)": of a row that comes in another one's place, too, and of all its elements. */
    private static void rowOfZerosAtFirst() {
        for (int sort = 0; sort <= 4; sort++) {
            for (int s = 0; s < 6; s += 5) {
                LeftByLast x = new LeftByLast();
                x.row(s, 3, 60);
                for (int i = 0; i < 60; i++) x.put(s, i, -1);
                x.row(s, sort, 60);
                for (int i = 0; i < 60; i++) Check.due("34: 0 again at " + i + ", sort " + sort, x.element(s, i), 0);
                for (int i = 0; i < 60; i++) x.put(s, i, 1);
                x.row(s, sort, 1);
                x.row(s, sort, 60);
                for (int i = 0; i < 60; i++) Check.due("34: 0 once more at " + i, x.element(s, i), 0);
            }
        }
        LeftByLast x = new LeftByLast();
        x.row(0, 2, 3);
        x.put(0, 2, 7);
        x.keep(0, -1);
        x.row(0, 2, 3);
        Check.due("34: 0 behind nothing", x.element(0, 2), 0);
        x.put(0, 2, 7);
        x.body(0);
        x.keep(0, 0);
        x.row(0, 2, 3);
        Check.due("34: 0 behind a taking", x.element(0, 2), 0);
        x.put(0, 2, 7);
        x.row(0, 2, -1);
        x.row(0, 2, 61);
        x.row(0, 5, 3);
        Check.due("34: a row that is refused takes no one's place", x.element(0, 2), 7);
    }

    /** Six rows of sixty, none beside another's. */
    private static void rowsOfTheirOwn() {
        LeftByLast x = new LeftByLast();
        for (int s = 0; s < 6; s++) {
            x.row(s, 2, 60);
            x.put(s, 0, 100 + s);
            x.put(s, 59, 200 + s);
        }
        for (int s = 0; s < 6; s++) {
            Check.due("36: first of " + s, x.element(s, 0), 100 + s);
            Check.due("36: second of " + s, x.element(s, 1), 0);
            Check.due("36: last of " + s, x.element(s, 59), 200 + s);
        }
        x.row(3, 2, 60);
        Check.due("36: the last one ahead of a new row", x.element(2, 59), 202);
        Check.due("36: the first one behind it", x.element(4, 0), 104);
        x.shift(2, 0, 3, 0, 60);
        Check.due("36: behind a row that came", x.element(4, 0), 104);
        Check.due("36: its last", x.element(3, 59), 202);
        x.keep(3, -1);
        Check.due("36: ahead of a shelf of nothing", x.element(2, 59), 202);
        Check.due("36: behind it", x.element(4, 0), 104);
    }

    private static void kept(int sort, long v, long want) {
        LeftByLast x = new LeftByLast();
        x.row(0, sort, 3);
        Check.due("35: put", x.put(0, 1, v), 1);
        Check.due("36: " + v + " in sort " + sort, x.element(0, 1), want);
        Check.due("36: beside it", x.element(0, 0) + x.element(0, 2), 0);
    }

    /** "what is put in keeps its lowest bits (a boolean: whether it is not 0; 1 or 0)". */
    private static void lowestBits() {
        long[][] bytes = {{127, 127}, {128, -128}, {-128, -128}, {-129, 127}, {255, -1}, {256, 0}, {HIGHEST, -1}, {LOWEST, 0},
            {1L << 32, 0}, {-256, 0}, {511, -1}};
        long[][] shorts = {{32767, 32767}, {32768, -32768}, {-32768, -32768}, {-32769, 32767}, {65535, -1}, {65536, 0},
            {HIGHEST, -1}, {LOWEST, 0}, {128, 128}, {1L << 32, 0}};
        long[][] ints = {{MOST, MOST}, {MOST + 1L, LEAST}, {LEAST, LEAST}, {LEAST - 1L, MOST}, {(1L << 32) - 1, -1},
            {1L << 32, 0}, {HIGHEST, -1}, {LOWEST, 0}, {65536, 65536}};
        long[][] longs = {{HIGHEST, HIGHEST}, {LOWEST, LOWEST}, {LOWEST + 1, LOWEST + 1}, {-1, -1}, {1L << 32, 1L << 32}};
        long[][] booleans = {{0, 0}, {1, 1}, {-1, 1}, {2, 1}, {256, 1}, {1L << 32, 1}, {HIGHEST, 1}, {LOWEST, 1}};
        long[][][] all = {bytes, shorts, ints, longs, booleans};
        for (int sort = 0; sort <= 4; sort++) {
            for (long[] one : all[sort]) kept(sort, one[0], one[1]);
        }
    }

    /** "BAD, -11, -12, -13." */
    private static void putRefused() {
        LeftByLast x = new LeftByLast();
        x.body(0);
        x.keep(1, 0);
        x.row(2, 0, 60);
        x.row(3, 4, 0);
        int[] places = {LEAST, -1, 0, 59, 60, MOST};
        Check.each("35: no shelf, place", i -> x.put(6, i, 1), -1, places);
        Check.each("35: nothing, place", i -> x.put(0, i, 1), -11, places);
        Check.each("35: a taking, place", i -> x.put(1, i, 1), -12, places);
        Check.each("35: an empty row, place", i -> x.put(3, i, 1), -13, places);
        Check.each("35: sixty, place", i -> x.put(2, i, 1), -13, LEAST, LEAST + 59, -60, -1, 60, 61, 120, MOST);
        Check.each("35: sixty, place", i -> x.put(2, i, 1), 1, 0, 1, 58, 59);
    }

    /** "Long.MIN_VALUE: BAD, -11 to -13." */
    private static void elementRefused() {
        LeftByLast x = new LeftByLast();
        x.body(0);
        x.keep(1, 0);
        x.row(2, 0, 60);
        x.row(3, 4, 0);
        for (int i : new int[] {LEAST, -1, 0, 59, 60, MOST}) {
            Check.due("36: no shelf, place " + i, x.element(6, i), LOWEST);
            Check.due("36: nothing, place " + i, x.element(0, i), LOWEST);
            Check.due("36: a taking, place " + i, x.element(1, i), LOWEST);
            Check.due("36: an empty row, place " + i, x.element(3, i), LOWEST);
        }
        for (int i : new int[] {LEAST, LEAST + 59, -60, -1, 60, 61, 120, MOST}) {
            Check.due("36: sixty, place " + i, x.element(2, i), LOWEST);
        }
        for (int i : new int[] {0, 1, 58, 59}) Check.due("36: sixty, place " + i, x.element(2, i), 0);
    }

    /** A long that is as low as what is answered else. */
    private static void elementThatIsTheLeast() {
        LeftByLast x = new LeftByLast();
        x.row(0, 3, 2);
        Check.due("35: the least long", x.put(0, 1, LOWEST), 1);
        Check.due("36: the least long", x.element(0, 1), LOWEST);
        x.shift(0, 1, 0, 0, 1);
        Check.due("36: it came", x.element(0, 0), LOWEST);
    }

    private static LeftByLast rows(int first, int second) {
        LeftByLast x = new LeftByLast();
        x.row(0, 2, first);
        x.row(1, 2, second);
        for (int i = 0; i < first; i++) x.put(0, i, 10 + i);
        for (int i = 0; i < second; i++) x.put(1, i, 80 + i);
        return x;
    }

    /** "(with n 0, too, if i or j is above how many there are)". */
    private static void shiftOfNone() {
        LeftByLast x = rows(3, 2);
        for (int i = 0; i <= 3; i++) {
            for (int j = 0; j <= 2; j++) Check.due("37: none from " + i + " to " + j, x.shift(0, i, 1, j, 0), 0);
        }
        Check.each("37: none, i", i -> x.shift(0, i, 1, 0, 0), -13, LEAST, -1, 4, 5, 60, MOST);
        Check.each("37: none, j", j -> x.shift(0, 0, 1, j, 0), -13, LEAST, -1, 3, 4, 60, MOST);
        Check.each("37: none, i and j", i -> x.shift(0, i, 1, i, 0), -13, LEAST, -1, 3, 4, MOST);
        Check.due("37: as they were", Texts.elements(x, 1, 2), "80 81");
        LeftByLast empty = rows(0, 0);
        Check.due("37: none of none", empty.shift(0, 0, 1, 0, 0), 0);
        Check.due("37: none of none, of the same", empty.shift(0, 0, 0, 0, 0), 0);
        Check.each("37: one of none, i", i -> empty.shift(0, i, 1, 0, 1), -13, -1, 0, 1);
        Check.each("37: none of none, i", i -> empty.shift(0, i, 1, 0, 0), -13, -1, 1);
        LeftByLast sixty = rows(60, 60);
        Check.due("37: none at the end of sixty", sixty.shift(0, 60, 1, 60, 0), 0);
        Check.due("37: none behind the end of sixty", sixty.shift(0, 61, 1, 60, 0), -13);
        Check.due("37: none behind the other end of sixty", sixty.shift(0, 60, 1, 61, 0), -13);
    }

    private static void shiftOfAll() {
        LeftByLast x = rows(60, 60);
        Check.due("37: sixty", x.shift(0, 0, 1, 0, 60), 60);
        for (int i = 0; i < 60; i++) Check.due("37: came, " + i, x.element(1, i), 10 + i);
        Check.due("37: the last one to the first place", x.shift(0, 59, 1, 0, 1), 1);
        Check.due("37: it came", x.element(1, 0), 69);
        Check.due("37: the first one to the last place", x.shift(0, 0, 1, 59, 1), 1);
        Check.due("37: it came, too", x.element(1, 59), 10);
    }

    /** "-13": i and n, or j and n, reach behind the end. */
    private static void shiftBeyond() {
        LeftByLast x = rows(3, 5);
        for (int i = 0; i <= 4; i++) {
            for (int j = 0; j <= 6; j++) {
                for (int n = 0; n <= 6; n++) {
                    boolean fits = i + n <= 3 && j + n <= 5;
                    Check.due("37: " + n + " from " + i + " to " + j, rows(3, 5).shift(0, i, 1, j, n), fits ? n : -13);
                }
            }
        }
        Check.each("37: far too many, n", n -> x.shift(0, 1, 1, 1, n), -13, 3, 60, MOST - 1, MOST);
        Check.each("37: as far as can be, i", i -> x.shift(0, i, 1, 0, MOST), -13, 0, 1, 3, MOST - 1, MOST);
        Check.each("37: as far as can be, j", j -> x.shift(0, 0, 1, j, MOST), -13, 0, 1, 5, MOST - 1, MOST);
        Check.due("37: as they were", Texts.elements(x, 1, 5), "80 81 82 83 84");
    }

    private static void shiftBelow() {
        LeftByLast x = rows(3, 3);
        Check.each("37: i", i -> x.shift(0, i, 1, 0, 1), -13, LEAST, -2, -1);
        Check.each("37: j", j -> x.shift(0, 0, 1, j, 1), -13, LEAST, -2, -1);
        Check.each("37: n", n -> x.shift(0, 0, 1, 0, n), -13, LEAST, -2, -1);
        Check.each("37: n, from the end", n -> x.shift(0, 3, 1, 3, n), -13, LEAST, -3, -1);
        Check.due("37: all below", x.shift(0, LEAST, 1, LEAST, LEAST), -13);
        Check.due("37: as they were", Texts.elements(x, 1, 3), "80 81 82");
    }

    /** "come to another one (or the same) .., as they all were before". */
    private static void shiftOverlapping() {
        for (int i = 0; i <= 5; i++) {
            for (int j = 0; j <= 5; j++) {
                for (int n = 0; n <= 5 - Math.max(i, j); n++) {
                    LeftByLast x = rows(5, 5);
                    long[] want = {10, 11, 12, 13, 14};
                    for (int k = 0; k < n; k++) want[j + k] = 10 + i + k;
                    Check.due("37: the same, " + n, x.shift(0, i, 0, j, n), n);
                    String told = n + " from " + i + " to " + j;
                    for (int k = 0; k < 5; k++) Check.due("37: " + told + ", at " + k, x.element(0, k), want[k]);
                }
            }
        }
    }

    /** "BAD, -11 (either), -12 (no ROWS, or of unlike sorts), -13": the one named first. */
    private static void shiftRefused() {
        LeftByLast x = new LeftByLast();
        x.body(0);
        x.keep(1, 0);
        for (int sort = 0; sort < 3; sort++) x.row(2 + sort, sort, 3);
        int[] shelves = {-1, 0, 1, 2, 3, 4, 5, 6};
        for (int s : shelves) {
            for (int other : shelves) {
                boolean bad = s < 0 || s > 5 || other < 0 || other > 5;
                boolean lacks = s == 0 || s == 5 || other == 0 || other == 5;
                boolean unlike = s == 1 || other == 1 || s != other;
                int want = bad ? -1 : lacks ? -11 : unlike ? -12 : -13;
                Check.due("37: from " + s + " to " + other, x.shift(s, 9, other, 9, 9), want);
                Check.due("37: none from " + s + " to " + other, x.shift(s, 0, other, 0, 0), want == -13 ? 0 : want);
            }
        }
        for (int sort = 0; sort <= 4; sort++) {
            for (int other = 0; other <= 4; other++) {
                x.row(2, sort, 1);
                x.row(3, other, 1);
                Check.due("37: sorts " + sort + ", " + other, x.shift(2, 0, 3, 0, 1), sort == other ? 1 : -12);
            }
        }
    }

    /** "BAD, -11, -12." */
    private static void takenRefused() {
        LeftByLast x = new LeftByLast();
        x.body(0);
        x.keep(1, 0);
        x.row(2, 0, 0);
        int[] kinds = {LEAST, -1, 8, MOST};
        for (int s = -1; s <= 6; s++) {
            int shelf = s;
            Check.each("38: shelf " + s + ", kind", k -> x.taken(shelf, k), -1, kinds);
        }
        for (int k = 0; k <= 7; k++) {
            Check.due("38: nothing, for " + k, x.taken(0, k), -11);
            Check.due("38: a row, for " + k, x.taken(2, k), -12);
            Check.due("38: a TAKING, for " + k, x.taken(1, k), k == 0 ? 0 : -12);
        }
        for (int sort = 0; sort <= 4; sort++) {
            x.row(3, sort, 3);
            Check.due("38: sort " + sort, x.taken(3, 0), -12);
        }
    }

    /** "taken for a TAKING of KIND k .., or under it: its KIND". */
    private static void takenOfKinds() {
        LeftByLast x = eight();
        int[] above = {-1, 0, 0, 2, 1, 3, 0, 4};
        for (int kind = 0; kind < 8; kind++) {
            x.keep(kind % 6, kind);
            for (int k = 0; k < 8; k++) {
                boolean under = false;
                for (int at = kind; at >= 0; at = above[at]) under |= at == k;
                Check.due("38: kind " + kind + " for " + k, x.taken(kind % 6, k), under ? kind : -12);
            }
        }
    }

    /** "How many: 0 .. 7. BAD." */
    private static void countBounds() {
        LeftByLast x = new LeftByLast();
        Check.each("39: what", x::count, -1, LEAST, -1, 8, 9, 10, MOST);
        Check.each("39: nothing yet, what", x::count, 0, 0, 1, 2, 3, 4, 5, 6, 7);
    }

    /** Each as many as there can be. */
    private static void countAtMost() {
        LeftByLast x = new LeftByLast();
        for (int t = 0; t < 9; t++) x.thing(5);
        for (int k = 0; k < 8; k++) x.customer(9, 2);
        for (int i = 0; i < 41; i++) x.mend(0, 0, 6 + i);
        for (int k = 0; k < 8; k++) x.visit();
        for (int i = 0; i < 51; i++) x.body(7);
        x.act(49, 3, 0);
        for (int i = 0; i < 121; i++) x.feed('p');
        int[] want = {8, 8, 7, 7, 120, 40, 50, 14};
        for (int what = 0; what < 8; what++) Check.due("39: count(" + what + ")", x.count(what), want[what]);
    }
}
