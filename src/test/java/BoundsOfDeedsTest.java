/** Each sentence of the terms' third part, and of promises 20 to 29, that names a bound: a test of its own. */
public final class BoundsOfDeedsTest {
    private static final int LEAST = Integer.MIN_VALUE, MOST = Integer.MAX_VALUE;

    public static void main(String[] args) {
        visitsOfNobody();
        visitsWhenAllHaveBeen();
        visitsFromTheFirstOn();
        visitsOfThoseWhoCameLate();
        theNextOneWhoHasBeen();
        eveningOfEachCount();
        eveningLeavesWhatIs();
        ledOfNobody();
        ledNotYet();
        ledTheLatest();
        drawnBounds();
        drawnOfNobodyAndOne();
        drawnByTheTold();
        drawnFromTheRowEachTime();
        judgeShelves();
        judgeEachPlace();
        judgeEndsBefore();
        judgeWhatIsBehind();
        judgeBytes();
        judgeLongerAndShorter();
        whoseShelves();
        whoseOfEachCount();
        whoseWhatLacks();
        whoseByNumbers();
        imageOfNobody();
        imageOfEachCount();
        backWithoutImage();
        backTwice();
        backOfThoseThatCame();
        backOfLeft();
        backIsNoChange();
        undoAndRedoNone();
        undoFortyAtMost();
        undoOfEachKind();
        theSameNumber();
        redoUntilAnotherCame();
        redoBehindDeeds();
        laidAsTold();
        Check.end("BoundsOfDeedsTest");
    }

    /** "STATE: all have been": of nobody, too. */
    private static void visitsOfNobody() {
        LeftByLast x = new LeftByLast();
        Check.due("20: nobody", x.visit(), -5);
        x.thing(5);
        Check.due("20: nobody, one thing", x.visit(), -5);
        Check.due("6: none LEFT", x.of(0, 31), 0);
        x.customer(5, 1);
        Check.due("20: somebody", x.visit(), -2);
        Check.due("20: nobody more", x.visit(), -5);
    }

    private static LeftByLast seven() {
        LeftByLast x = Texts.shop(new int[] {5, 5}, 9, 1, 9, 1, 9, 1, 9, 1, 9, 1, 9, 1, 9, 1);
        for (int k = 0; k < 7; k++) Texts.wishes(x, k, 8, 7);
        return x;
    }

    /** "STATE: all have been", and nothing changes. */
    private static void visitsWhenAllHaveBeen() {
        LeftByLast x = seven();
        int[] want = {-2, 0, -2, 1, -2, -2, -2};
        for (int k = 0; k < 7; k++) Check.due("20: visit of " + k, x.visit(), want[k]);
        for (int i = 0; i < 3; i++) Check.due("20: all have been", x.visit(), -5);
        Check.due("39: seven", x.count(3), 7);
        Check.due("6: taken in", x.of(0, 32), 10);
        x.evening();
        Check.due("20: nothing is there", x.visit(), -2);
        Check.due("39: one", x.count(3), 1);
    }

    /** "the next one in THE ROW who has not been (from the first on)". */
    private static void visitsFromTheFirstOn() {
        LeftByLast x = seven();
        Texts.layRow(x, 3, 6, 0, 5, 2, 4, 1);
        int[] row = {3, 6, 0, 5, 2, 4, 1};
        for (int round = 0; round < 2; round++) {
            for (int i = 0; i < 7; i++) {
                for (int j = 0; j < 7; j++) Check.due("6: has been, " + row[j], x.of(row[j], 14), j < i ? 1 : 0);
                x.visit();
            }
            x.evening();
        }
    }

    private static void visitsOfThoseWhoCameLate() {
        LeftByLast x = Texts.shop(new int[] {5}, 0, 1, 0, 1);
        x.image();
        x.customer(9, 1);
        for (int i = 0; i < 3; i++) x.visit();
        x.back();
        // 2 came since and has been; 0 and 1 have not.
        Check.due("27: one has been", x.count(3), 1);
        x.customer(9, 1);
        x.mend(30, 3, 6);
        Check.due("20: 0", x.visit(), -2);
        Check.due("6: 0 has been", x.of(0, 14), 1);
        Check.due("20: 1", x.visit(), -2);
        Check.due("20: not 2, but 3", x.visit(), 0);
        Check.due("6: 3 has been", x.of(3, 14), 1);
        Check.due("20: all", x.visit(), -5);
    }

    /** "the next one known (in THE ROW; of the last one: none)": whether it has been or not. */
    private static void theNextOneWhoHasBeen() {
        LeftByLast x = Texts.shop(new int[] {5, 5, 5}, 0, 1);
        x.mend(0, 2, 1);
        x.mend(1, 3, 1);
        x.image();
        x.visit();
        Check.due("20: the last one is kind to none", x.led(0, 1), 2);
        x.customer(0, 1);
        x.mend(12, 3, 1);
        x.visit();
        x.back();
        Check.due("6: 1 has been", x.of(1, 14), 1);
        x.visit();
        Check.due("20: kind to 1, who has been", x.led(0, 1), 4);
        Check.due("20: all have been", x.visit(), -5);
    }

    /** "EVENING: how many have been": none, each count, all. */
    private static void eveningOfEachCount() {
        Check.due("21: nobody", new LeftByLast().evening(), 0);
        LeftByLast x = seven();
        for (int were = 0; were <= 7; were++) {
            for (int i = 0; i < were; i++) x.visit();
            Check.due("39: have been", x.count(3), were);
            Check.due("21: have been", x.evening(), were);
            Check.due("21: none then", x.count(3), 0);
            Check.due("21: none, again", x.evening(), 0);
        }
    }

    /** "all begin anew (LEFT stays; THINGS that are gone stay so)". */
    private static void eveningLeavesWhatIs() {
        LeftByLast x = seven();
        for (int i = 0; i < 3; i++) x.visit();
        x.evening();
        Check.due("6: LEFT stays", x.of(0, 31), 2);
        Check.due("6: gone stays so", x.of(0, 1), 0);
        Check.due("6: there stays so", x.of(1, 1), 1);
        Check.due("6: COIN that was paid", x.of(1, 10), 4);
        Check.due("6: TAKEN IN stays", x.of(0, 32), 5);
        Check.due("22: LED stays", x.led(1, 0), 0);
        Check.due("20: 0 buys what 2 left", x.visit(), 1);
        Check.due("6: TAKEN IN goes on", x.of(0, 32), 10);
        Check.due("6: nothing LEFT", x.of(0, 31), 0);
        x.evening();
        Check.due("6: nothing LEFT stays", x.of(0, 31), 0);
    }

    /** "LED of a CUSTOMER: .. (what 0; NOT), took up (1). BAD". */
    private static void ledOfNobody() {
        LeftByLast none = new LeftByLast();
        Check.each("22: nobody", k -> none.led(k, 0), -1, LEAST, -1, 0, 6, 7, MOST);
        LeftByLast x = seven();
        for (int i = 0; i < 7; i++) x.visit();
        for (int what = 0; what <= 1; what++) {
            int told = what;
            Check.each("22: what " + what + " of", k -> x.led(k, told), -1, LEAST, -1, 7, 8, MOST);
        }
        Check.each("22: what", what -> x.led(0, what), -1, LEAST, -1, 2, 3, MOST);
        Check.each("22: what of the seventh", what -> x.led(6, what), -1, LEAST, -1, 2, MOST);
        Check.due("22: the seventh bought nothing", x.led(6, 0), -2);
        Check.due("22: the seventh took up nothing", x.led(6, 1), 0);
    }

    /** "STATE: no VISIT yet", behind BAD. */
    private static void ledNotYet() {
        LeftByLast x = seven();
        for (int k = 0; k < 7; k++) {
            for (int later = k; later < 7; later++) {
                Check.due("22: not yet, bought by " + later, x.led(later, 0), -5);
                Check.due("22: not yet, taken up by " + later, x.led(later, 1), -5);
            }
            x.visit();
            Check.due("22: now, " + k, x.led(k, 0), k == 1 ? 0 : k == 3 ? 1 : -2);
        }
        LeftByLast y = seven();
        Check.each("22: BAD ahead of STATE, what", what -> y.led(0, what), -1, -1, 2);
        y.evening();
        Check.due("22: an evening is no VISIT", y.led(0, 0), -5);
        y.image();
        y.visit();
        y.back();
        Check.due("22: its VISIT was, though it is laid back", y.led(0, 0), -2);
    }

    /** "at its latest VISIT". */
    private static void ledTheLatest() {
        LeftByLast x = Texts.shop(new int[] {5, 6, 7}, 0, 2, 20, 1);
        Texts.wishes(x, 1, 9, 9, 9);
        int[] bought = {0, 1, 2, -2};
        int[] taken = {3, 6, 4, 0};
        for (int i = 0; i < 4; i++) {
            x.visit();
            Check.due("22: 0 took up, day " + i, x.led(0, 1), taken[i]);
            Check.due("22: 0 bought nothing, day " + i, x.led(0, 0), -2);
            if (i > 0) Check.due("22: 1 bought, as yesterday, day " + i, x.led(1, 0), bought[i - 1]);
            x.visit();
            Check.due("22: 1 bought, day " + i, x.led(1, 0), bought[i]);
            Check.due("22: 1 took up nothing, day " + i, x.led(1, 1), 0);
            x.evening();
        }
    }

    /** "n (1 .. 50)"; "a CUSTOMER .., SERVED in all (customer -1). BAD." */
    private static void drawnBounds() {
        LeftByLast x = seven();
        Check.each("23: n", n -> x.drawn(1, n, -1), -1, LEAST, -1, 0, 51, 100, MOST);
        Check.each("23: n, of one", n -> x.drawn(1, n, 0), -1, LEAST, -1, 0, 51, MOST);
        Check.each("23: customer", k -> x.drawn(1, 1, k), -1, LEAST, -3, -2, 7, 8, MOST);
        Check.due("23: as many in all as seven one by one", x.drawn(-9, 50, -1), sumOfEach(x, -9, 50));
        Check.due("23: 50 days, 2 or 1 are served in each", x.drawn(3, 50, -1), 100);
        Check.due("23: one day", x.drawn(3, 1, -1), 2);
        LeftByLast y = new LeftByLast();
        Check.each("23: nobody, customer", k -> y.drawn(1, 1, k), -1, LEAST, -2, 0, 1, 7, MOST);
        Check.each("23: nobody, n", n -> y.drawn(1, n, -1), 0, 1, 50);
        Check.each("23: nobody, n", n -> y.drawn(1, n, -1), -1, 0, 51);
    }

    private static int sumOfEach(LeftByLast x, int seed, int n) {
        int sum = 0;
        for (int k = 0; k < x.count(2); k++) sum += x.drawn(seed, n, k);
        return sum;
    }

    /** One has no place to change: each day is as it is. */
    private static void drawnOfNobodyAndOne() {
        LeftByLast x = Texts.shop(new int[] {5}, 9, 1);
        x.mend(0, 3, 9);
        int[] seeds = {LEAST, -1, 0, 1, MOST};
        for (int seed : seeds) Check.due("23: nothing LEFT, seed " + seed, x.drawn(seed, 50, 0), 0);
        x.visit();
        for (int seed : seeds) {
            Check.due("23: from LEFT, seed " + seed, x.drawn(seed, 50, 0), 50);
            Check.due("23: SERVED, seed " + seed, x.drawn(seed, 50, -1), 50);
            Check.due("23: one day, seed " + seed, x.drawn(seed, 1, 0), 1);
        }
        Check.due("23: it is all in thought", x.of(0, 1) * 100 + x.of(0, 10), 109);
    }

    /** Each buys if another one stands at a place of its own ahead, so that rows tell apart. */
    private static LeftByLast mixed(int people) {
        LeftByLast x = new LeftByLast();
        for (int t = 0; t < 6; t++) x.thing(10 + 3 * t);
        Draws draws = new Draws(people);
        for (int k = 0; k < people; k++) {
            x.customer(draws.from(10, 40), 1 + k % 2);
            x.mend(k, 2, k % 4);
            for (int t = 0; t < 6; t++) x.mend(10 * k + t, 3, draws.from(0, 40));
        }
        x.mend(0, 4, 2);
        Texts.layRow(x, mixedRow(people));
        return x;
    }

    private static int[] mixedRow(int people) {
        int[] row = new int[people];
        for (int i = 0; i < people; i++) row[i] = people - 1 - i;
        return row;
    }

    /** The document's own words on how THE ROW is mixed, gone through once more. */
    private static int[] mix(int[] row, int[] z) {
        int[] all = row.clone();
        for (int i = all.length - 1; i >= 1; i--) {
            z[0] = z[0] * 1103515245 + 12345;
            int j = (z[0] >>> 8) % (i + 1);
            int held = all[i];
            all[i] = all[j];
            all[j] = held;
        }
        return all;
    }

    /** "for i from the last place to 1: z = ..; place i and place (z >>> 8) % (i + 1) change". */
    private static void drawnByTheTold() {
        int[] seeds = {0, 1, -1, LEAST, MOST, 12345, -987654321};
        for (int people = 2; people <= 7; people++) {
            for (int seed : seeds) {
                int days = seed == 12345 ? 50 : 6;
                int[] z = {seed};
                int served = 0;
                int[] buys = new int[people];
                for (int day = 1; day <= days; day++) {
                    LeftByLast y = mixed(people);
                    Texts.layRow(y, mix(mixedRow(people), z));
                    served += y.day(0);
                    for (int k = 0; k < people; k++) if (y.buys(k) >= 0) buys[k]++;
                    if (day != 1 && day != days) continue;
                    LeftByLast x = mixed(people);
                    String told = people + " of seed " + seed + ", days " + day;
                    Check.due("23: SERVED, " + told, x.drawn(seed, day, -1), served);
                    for (int k = 0; k < people; k++) Check.due("23: " + k + " of " + told, x.drawn(seed, day, k), buys[k]);
                }
            }
        }
    }

    /** "(from THE ROW, each time anew)", and THE ROW stays. */
    private static void drawnFromTheRowEachTime() {
        LeftByLast x = mixed(7);
        int first = x.drawn(77, 40, -1);
        Check.due("23: again", x.drawn(77, 40, -1), first);
        Check.due("6: THE ROW stays", Texts.rowOf(x), "6543210");
        Check.due("39: nobody has been", x.count(3), 0);
        Check.due("6: nothing was taken in", x.of(0, 32), 0);
    }

    /** "BAD, -11, -12 (no ROW of bytes)". */
    private static void judgeShelves() {
        LeftByLast x = seven();
        Check.each("24: shelf", x::judge, -1, LEAST, -1, 6, 7, MOST);
        Check.each("24: nothing on shelf", x::judge, -11, 0, 1, 2, 3, 4, 5);
        for (int sort = 1; sort <= 4; sort++) {
            x.row(sort, sort, 0);
            Check.due("24: none of sort " + sort, x.judge(sort), -12);
            x.row(sort, sort, 7);
            Check.due("24: sort " + sort, x.judge(sort), -12);
        }
        x.body(0);
        x.keep(5, 0);
        Check.due("24: a taking", x.judge(5), -12);
        x.keep(5, -1);
        Check.due("24: nothing again", x.judge(5), -11);
        x.row(5, 0, 0);
        Check.due("24: bytes, on the last shelf", x.judge(5), -2);
    }

    private static void tell(LeftByLast x, int at, int v) {
        Texts.bytes(x, 0, -1, 0, -1, 1, -1, -1, -1);
        x.put(0, at, v);
    }

    /** "the first that was not so": at each place. */
    private static void judgeEachPlace() {
        LeftByLast x = seven();
        tell(x, 0, -1);
        Check.due("24: so it was", x.judge(0), -2);
        for (int at = 0; at < 7; at++) {
            tell(x, at, 7);
            Check.due("24: not so at " + at, x.judge(0), at);
            for (int behind = at; behind < 7; behind++) x.put(0, behind, 6);
            Check.due("24: the first is at " + at, x.judge(0), at);
        }
        for (int i = 0; i < 3; i++) x.visit();
        // LEFT is thing 1, thing 0 is gone: the first one buys, and so on.
        Texts.bytes(x, 1, 1, -1, -1, -1, -1, -1, -1);
        Check.due("24: a DAY from LEFT as it is", x.judge(1), -2);
    }

    /** "NOT (also if it ends before ..)". */
    private static void judgeEndsBefore() {
        LeftByLast x = seven();
        int[] truth = {-1, 0, -1, 1, -1, -1, -1};
        for (int n = 0; n <= 7; n++) {
            x.row(0, 0, n);
            for (int i = 0; i < n; i++) x.put(0, i, truth[i]);
            Check.due("24: it ends behind " + n, x.judge(0), -2);
            if (n > 0) x.put(0, n - 1, 5);
            Check.due("24: its last is not so, of " + n, x.judge(0), n == 0 ? -2 : n - 1);
        }
    }

    /** "what is behind does not count". */
    private static void judgeWhatIsBehind() {
        LeftByLast x = Texts.shop(new int[] {5}, 0, 1, 9, 1);
        x.mend(10, 3, 9);
        for (int n : new int[] {2, 3, 7, 8, 9, 60}) {
            x.row(0, 0, n);
            for (int i = 0; i < n; i++) x.put(0, i, i == 0 ? -1 : i == 1 ? 0 : 100);
            Check.due("24: " + n + " bytes for two", x.judge(0), -2);
        }
        LeftByLast none = new LeftByLast();
        Texts.bytes(none, 0, 3, 3, 3);
        Check.due("24: nobody: all is behind", none.judge(0), -2);
        LeftByLast all = seven();
        all.row(0, 0, 60);
        for (int i = 0; i < 60; i++) all.put(0, i, i == 1 ? 0 : i == 3 ? 1 : i < 7 ? -1 : 5);
        Check.due("24: sixty bytes for seven", all.judge(0), -2);
        all.put(0, 6, 5);
        Check.due("24: the seventh counts", all.judge(0), 6);
    }

    /** "a THING, -1 nothing": another byte is never so. */
    private static void judgeBytes() {
        LeftByLast x = Texts.shop(new int[] {5, 5, 5, 5, 5, 5, 5, 5}, 0, 1, 9, 1);
        x.mend(7, 3, 1);
        x.mend(17, 3, 9);
        for (int v = -128; v <= 127; v++) {
            if (v == 0) {
                x = Texts.shop(new int[] {5, 5, 5, 5, 5, 5, 5, 5}, 0, 1, 9, 1);
                x.mend(7, 3, 1);
                x.mend(17, 3, 9);
            }
            if (v % 5 != 0 && Math.abs(v) > 10) continue;
            Texts.bytes(x, 0, v, 7);
            Check.due("24: nothing told as " + v, x.judge(0), v == -1 ? -2 : 0);
            Texts.bytes(x, 0, -1, v);
            Check.due("24: thing 7 told as " + v, x.judge(0), v == 7 ? -2 : 1);
        }
        Texts.bytes(x, 0, 255, 263);
        Check.due("24: the lowest bits are told", x.judge(0), -2);
    }

    /** What an earlier row told does not matter to a shorter one. */
    private static void judgeLongerAndShorter() {
        LeftByLast x = seven();
        Texts.bytes(x, 0, -1, 0, -1, 5, 5, 5, 5);
        Texts.bytes(x, 1, -1, 0);
        Check.due("24: the longer", x.judge(0), 3);
        Check.due("24: the shorter", x.judge(1), -2);
        Check.due("25: the longer", x.whose(0), 0);
        Check.due("25: the shorter, thing 0 or 1 to customer 1", x.whose(1) > 0 ? 1 : 0, 1);
        Texts.bytes(x, 1);
        Check.due("24: the empty one", x.judge(1), -2);
        Check.due("25: the empty one", x.whose(1), 5040);
    }

    /** "BAD, -11, -12." */
    private static void whoseShelves() {
        LeftByLast x = Texts.shop(new int[] {5}, 9, 1);
        Check.each("25: shelf", x::whose, -1, LEAST, -1, 6, 7, MOST);
        Check.each("25: nothing on shelf", x::whose, -11, 0, 1, 2, 3, 4, 5);
        for (int sort = 1; sort <= 4; sort++) {
            x.row(sort, sort, 0);
            Check.due("25: none of sort " + sort, x.whose(sort), -12);
            x.row(sort, sort, 1);
            Check.due("25: sort " + sort, x.whose(sort), -12);
        }
        x.body(7);
        x.keep(5, 0);
        Check.due("25: a taking", x.whose(5), -12);
        x.row(5, 0, 0);
        Check.due("25: bytes, on the last shelf", x.whose(5), 1);
    }

    /** "of all rows of CUSTOMERS how many": 1, 1, 2, 6, .. 5040, if nothing is told. */
    private static void whoseOfEachCount() {
        LeftByLast x = new LeftByLast();
        x.thing(5);
        x.row(0, 0, 0);
        x.row(1, 0, 60);
        for (int i = 0; i < 60; i++) x.put(1, i, -1);
        int[] rows = {1, 1, 2, 6, 24, 120, 720, 5040};
        for (int k = 0; k <= 7; k++) {
            Check.due("25: nothing told of " + k, x.whose(0), rows[k]);
            Check.due("25: nothing bought by " + k, x.whose(1), rows[k]);
            x.put(1, k, 0);
            Check.due("25: who is not one of them does not matter, " + k, x.whose(1), rows[k]);
            x.put(1, k, -1);
            x.customer(9, 1);
        }
        x.put(1, 6, 0);
        Check.due("25: never so", x.whose(1), 0);
        for (int k = 0; k < 7; k++) x.mend(10 * k, 3, 9);
        x.put(1, 6, -1);
        Check.due("25: one of them buys it", x.whose(1), 0);
        x.put(1, 6, 0);
        Check.due("25: 6, at the second place, by any other one", x.whose(1), 720);
    }

    /** "what lacks does not matter". */
    private static void whoseWhatLacks() {
        LeftByLast x = Texts.shop(new int[] {5}, 9, 1, 9, 1, 9, 1);
        for (int k = 0; k < 3; k++) x.mend(10 * k, 3, 9);
        // The second of a row buys it.
        int[][] told = {{}, {-1}, {0}, {-1, -1}, {-1, 0}, {0, -1}, {0, 0}, {-1, -1, 0}, {-1, -1, -1}, {0, -1, -1, 0}};
        int[] want = {6, 4, 2, 2, 2, 2, 0, 2, 0, 2};
        for (int i = 0; i < told.length; i++) {
            Texts.bytes(x, 0, told[i]);
            Check.due("25: " + told[i].length + " bytes, " + i, x.whose(0), want[i]);
        }
        for (int v : new int[] {-128, -2, 1, 7, 8, 127}) {
            Texts.bytes(x, 0, v);
            Check.due("25: never " + v, x.whose(0), 0);
        }
    }

    /** "(by numbers)": THE ROW as it is does not matter, nor who has been. */
    private static void whoseByNumbers() {
        LeftByLast x = Texts.shop(new int[] {5, 6}, 0, 1, 9, 1, 9, 1);
        Texts.wishes(x, 0, 1, 0);
        Texts.wishes(x, 1, 9, 0);
        Texts.wishes(x, 2, 0, 9);
        x.mend(1, 2, 3);
        Texts.bytes(x, 0, -1, 0, -1);
        Texts.bytes(x, 1, -1, -1, 1);
        for (int i = 0; i < 2; i++) {
            Check.due("25: 0 1 2 and 2 0 1", x.whose(0), 2);
            Check.due("25: 1 2 0", x.whose(1), 1);
            x.swap(2);
        }
        x.visit();
        Check.due("25: LEFT is thing 0: 1 2 0, too", x.whose(0), 3);
    }

    /** "AN IMAGE is kept: how many CUSTOMERS": 0 is an image, too. */
    private static void imageOfNobody() {
        LeftByLast x = new LeftByLast();
        Check.due("26: nobody", x.image(), 0);
        Check.due("27: it knew nobody", x.back(), 0);
        x.thing(5);
        x.customer(9, 1);
        x.mend(0, 3, 9);
        x.visit();
        Check.due("27: it knew nobody, nor any thing", x.back(), 0);
        Check.due("6: LEFT is none", x.of(0, 31), 0);
        Check.due("6: the thing stays", x.of(0, 1) * 100 + x.of(0, 0), 105);
        Check.due("6: the customer stays, and has been", x.of(0, 14), 1);
        Check.due("6: its place", x.of(0, 13), 0);
        x.evening();
        x.visit();
        x.evening();
        Check.due("20: bought", x.visit(), 0);
        Check.due("27: back again", x.back(), 0);
        Check.due("6: it is gone still, as it came since", x.of(0, 1), 0);
        Check.due("6: its coin is less still", x.of(0, 10), 4);
        Check.due("6: but nothing was taken in", x.of(0, 32), 0);
    }

    private static void imageOfEachCount() {
        LeftByLast x = new LeftByLast();
        x.thing(5);
        for (int k = 0; k <= 7; k++) {
            Check.due("26: of " + k, x.image(), k);
            for (int i = 0; i < k; i++) x.visit();
            Check.due("27: of " + k, x.back(), k);
            Check.due("27: nobody of " + k + " has been", x.count(3), 0);
            Check.due("27: none is LEFT, " + k, x.of(0, 31), 0);
            x.customer(9, 1);
        }
    }

    /** "STATE: there is none." */
    private static void backWithoutImage() {
        LeftByLast x = seven();
        x.visit();
        Check.due("27: none", x.back(), -5);
        Check.due("6: LEFT stays", x.of(0, 31), 1);
        Check.due("39: one has been", x.count(3), 1);
        x.image();
        Check.due("27: one", x.back(), 7);
        Check.due("39: one had been", x.count(3), 1);
    }

    /** The image stays, until another is kept. */
    private static void backTwice() {
        LeftByLast x = seven();
        x.swap(6);
        x.image();
        for (int i = 0; i < 2; i++) {
            x.mend(0, 0, 40 + i);
            x.mend(0, 1, 50 + i);
            x.visit();
            x.visit();
            Check.due("27: back, " + i, x.back(), 7);
            Check.due("6: price, " + i, x.of(0, 0), 5);
            Check.due("6: coin, " + i, x.of(0, 10), 9);
            Check.due("6: LEFT, " + i, x.of(0, 31), 0);
            Check.due("6: there, " + i, x.of(1, 1), 1);
            Check.due("39: nobody has been, " + i, x.count(3), 0);
            Check.due("6: THE ROW, " + i, Texts.rowOf(x), "6123450");
        }
        x.swap(1);
        x.image();
        x.swap(1);
        Check.due("27: the later image", x.back(), 7);
        Check.due("6: its ROW", Texts.rowOf(x), "1623450");
    }

    /** "THINGS, CUSTOMERS that came since stay as they are, these last in THE ROW, by numbers". */
    private static void backOfThoseThatCame() {
        LeftByLast x = Texts.shop(new int[] {5}, 9, 1, 9, 1);
        x.swap(1);
        x.image();
        for (int k = 2; k < 7; k++) x.customer(20 + k, 2);
        for (int t = 1; t < 8; t++) x.thing(10 + t);
        Texts.layRow(x, 6, 5, 4, 3, 2, 0, 1);
        x.mend(7, 0, 77);
        x.mend(6, 1, 66);
        x.mend(0, 0, 44);
        Check.due("27: it knew two", x.back(), 2);
        Check.due("6: THE ROW", Texts.rowOf(x), "1023456");
        Check.due("6: who came, hands", x.of(6, 11), 2);
        Check.due("6: who came, coin", x.of(6, 10), 66);
        Check.due("6: what came, price", x.of(7, 0), 77);
        Check.due("6: what was, price", x.of(0, 0), 5);
        Check.due("39: eight things", x.count(0), 8);
        Check.due("39: all there", x.count(1), 8);
        Check.due("39: seven customers", x.count(2), 7);
        for (int i = 0; i < 7; i++) x.visit();
        x.back();
        Check.due("39: those who came have been", x.count(3), 5);
        Check.due("6: 0 has not", x.of(0, 14), 0);
        Check.due("6: 2 has", x.of(2, 14), 1);
        Check.due("26: an image of seven", x.image(), 7);
        x.evening();
        x.back();
        Check.due("39: five had been", x.count(3), 5);
    }

    /** LEFT of an image, when what is LEFT came since, and when what was LEFT is bought. */
    private static void backOfLeft() {
        LeftByLast x = Texts.shop(new int[] {5}, 9, 1, 9, 1, 9, 1);
        x.mend(10, 3, 9);
        x.visit();
        x.image();
        x.thing(6);
        x.mend(21, 3, 3);
        x.visit();
        x.visit();
        Check.due("6: LEFT came since", x.of(0, 31), 2);
        x.back();
        Check.due("6: LEFT was thing 0, and is there", x.of(0, 31) * 10 + x.of(0, 1), 11);
        Check.due("20: 1 buys it again", x.visit(), 0);
        Check.due("6: for what it had", x.of(1, 10), 4);
        Check.due("6: taken in once", x.of(0, 32), 5);
    }

    /** CHANGES are PRICE, COIN, WISH, WAY, RISE as told: what is laid back is none. */
    private static void backIsNoChange() {
        LeftByLast x = seven();
        int told = x.count(5);
        x.image();
        x.mend(0, 0, 50);
        x.back();
        Check.due("39: one more change", x.count(5), told + 1);
        Check.due("28: undone, though it is as it was", x.undo(), told);
        Check.due("6: price", x.of(0, 0), 5);
        x.back();
        Check.due("29: back is none that came behind", x.redo(), 0);
        Check.due("6: price as told", x.of(0, 0), 50);
    }

    /** "STATE: none." */
    private static void undoAndRedoNone() {
        LeftByLast x = new LeftByLast();
        for (int i = 0; i < 2; i++) {
            Check.due("28: none", x.undo(), -5);
            Check.due("29: none", x.redo(), -5);
        }
        x.thing(5);
        x.customer(9, 1);
        Check.due("28: what comes is no change", x.undo(), -5);
        x.mend(0, 0, 6);
        Check.due("29: none was undone", x.redo(), -5);
        Check.due("28: one", x.undo(), 0);
        Check.due("28: none more", x.undo(), -5);
        Check.due("6: price", x.of(0, 0), 5);
        Check.due("29: one", x.redo(), 0);
        Check.due("29: none more", x.redo(), -5);
        Check.due("6: price", x.of(0, 0), 6);
    }

    /** "40 at most are kept". */
    private static void undoFortyAtMost() {
        for (int told = 39; told <= 42; told++) {
            LeftByLast x = Texts.shop(new int[] {0});
            for (int i = 1; i <= told; i++) {
                x.mend(0, 0, i);
                Check.due("39: change " + i, x.count(5), Math.min(i, 40));
            }
            int kept = Math.min(told, 40);
            for (int i = kept - 1; i >= 0; i--) Check.due("28: of " + told, x.undo(), i);
            Check.due("28: no more of " + told, x.undo(), -5);
            Check.due("6: the price is what it was ahead of those kept", x.of(0, 0), told - kept);
            for (int i = kept - 1; i >= 0; i--) Check.due("29: of " + told, x.redo(), i);
            Check.due("29: no more of " + told, x.redo(), -5);
            Check.due("6: all are done", x.of(0, 0), told);
            Check.due("39: they may be undone", x.count(5), kept);
            x.mend(0, 0, 90);
            Check.due("28: one more is kept, the oldest is not", x.undo(), Math.min(told, 39));
            Check.due("6: the one before", x.of(0, 0), told);
        }
    }

    /** "CHANGES (PRICE, COIN, WISH, WAY; RISE ..)": none else. */
    private static void undoOfEachKind() {
        int[] asked = {0, 10, 12, 20, 30};
        for (int what = 0; what <= 4; what++) {
            LeftByLast x = Texts.shop(new int[] {3}, 3, 1);
            int was = x.of(0, asked[what]);
            x.mend(0, what, 4);
            Check.due("39: one, what " + what, x.count(5), 1);
            Check.due("28: what " + what, x.undo(), 0);
            Check.due("6: as it was, what " + what, x.of(0, asked[what]), was);
            Check.due("29: what " + what, x.redo(), 0);
            Check.due("6: as told, what " + what, x.of(0, asked[what]), 4);
        }
        LeftByLast x = Texts.shop(new int[] {3, 3}, 3, 1, 3, 1);
        x.swap(1);
        Texts.law(x, "p");
        Texts.bytes(x, 0, 9, 1, 0);
        x.customers(0, 0, 1);
        x.visit();
        x.evening();
        x.image();
        x.back();
        x.body(0);
        Check.due("39: none of these is a change", x.count(5), 0);
        Check.due("28: none", x.undo(), -5);
    }

    /** "telling the same number is none", nor does it come behind those undone. */
    private static void theSameNumber() {
        int[] same = {3, 3, 0, 0, 0};
        LeftByLast x = Texts.shop(new int[] {3}, 3, 1);
        for (int what = 0; what <= 4; what++) Check.due("5: the same, what " + what, x.mend(0, what, same[what]), same[what]);
        Check.due("39: none", x.count(5), 0);
        x.mend(0, 0, 4);
        x.undo();
        for (int what = 0; what <= 4; what++) x.mend(0, what, same[what]);
        Check.due("29: none came behind", x.redo(), 0);
        Check.due("6: as told", x.of(0, 0), 4);
        x.mend(0, 0, 4);
        Check.due("39: one", x.count(5), 1);
        // The same as a price has moved to is none, too; the same as was told once, but is no more, is one.
        LeftByLast y = Texts.shop(new int[] {3}, 3, 1);
        y.mend(0, 4, 5);
        y.visit();
        Check.due("5: it has moved to 8", y.mend(0, 0, 8), 8);
        Check.due("39: rise alone", y.count(5), 1);
        Check.due("5: it was 3", y.mend(0, 0, 3), 8);
        Check.due("39: rise and price", y.count(5), 2);
    }

    /** "DONE AGAIN (as long as no other came behind)". */
    private static void redoUntilAnotherCame() {
        LeftByLast x = Texts.shop(new int[] {0, 0});
        for (int i = 1; i <= 5; i++) x.mend(0, 0, i);
        for (int i = 4; i >= 2; i--) Check.due("28: undone", x.undo(), i);
        Check.due("29: one again", x.redo(), 2);
        x.mend(1, 0, 9);
        Check.due("29: another came behind", x.redo(), -5);
        Check.due("39: four", x.count(5), 4);
        Check.due("28: the other", x.undo(), 3);
        Check.due("6: thing 1", x.of(1, 0), 0);
        Check.due("29: the other, and none of the three", x.redo(), 0);
        Check.due("29: none", x.redo(), -5);
        for (int i = 3; i >= 0; i--) x.undo();
        Check.due("6: thing 0", x.of(0, 0), 0);
        Check.due("5: refused", x.mend(0, 0, 100), -1);
        Check.due("5: refused, too", x.mend(2, 0, 1), -1);
        Check.due("29: what was refused did not come", x.redo(), 3);
    }

    /** "a VISIT, a mixed ROW are none", nor is anything but a CHANGE. */
    private static void redoBehindDeeds() {
        for (int deed = 0; deed < 12; deed++) {
            LeftByLast x = Texts.shop(new int[] {3, 4}, 9, 1, 9, 1);
            x.mend(0, 0, 7);
            x.undo();
            switch (deed) {
                case 0: x.visit(); break;
                case 1: x.swap(1); break;
                case 2: x.evening(); break;
                case 3: x.image(); x.back(); break;
                case 4: x.thing(5); break;
                case 5: x.customer(5, 1); break;
                case 6: Texts.bytes(x, 0, 9, 1, 0); x.customers(0, 0, 1); break;
                case 7: Texts.law(x, "p"); break;
                case 8: x.body(0); x.act(0, 0, 1); break;
                case 9: x.order(0, 0); x.price(0); x.nephew(0); x.enough(0); break;
                case 10: x.drawn(5, 5, -1); break;
                default: x.undo(); x.redo(); x.undo(); break;
            }
            Check.due("29: behind deed " + deed, x.redo(), 0);
            Check.due("6: as told, behind deed " + deed, x.of(0, 0), 7);
            Check.due("39: it may be undone, behind deed " + deed, x.count(5), 1);
        }
    }

    /** "(A COIN that was less by buying, a PRICE that moved, is laid as told.)" */
    private static void laidAsTold() {
        LeftByLast x = Texts.shop(new int[] {10}, 0, 1, 40, 1);
        x.mend(10, 3, 99);
        x.mend(0, 4, 5);
        x.mend(1, 1, 60);
        x.mend(0, 0, 20);
        x.visit();
        Check.due("6: the price moved", x.of(0, 0), 25);
        x.visit();
        Check.due("6: the coin is less", x.of(1, 10), 35);
        Check.due("28: price", x.undo(), 3);
        Check.due("6: price as it was", x.of(0, 0), 10);
        Check.due("28: coin", x.undo(), 2);
        Check.due("6: coin as it was", x.of(1, 10), 40);
        Check.due("29: coin", x.redo(), 1);
        Check.due("6: coin as told", x.of(1, 10), 60);
        Check.due("29: price", x.redo(), 0);
        Check.due("6: price as told", x.of(0, 0), 20);
        Check.due("6: the thing stays gone", x.of(0, 1), 0);
        Check.due("6: what was taken in stays", x.of(0, 32), 25);
    }
}
