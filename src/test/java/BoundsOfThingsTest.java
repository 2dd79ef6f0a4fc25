/** Each sentence of the terms' first part, and of promises 1 to 7, that names a bound: a test of its own. */
public final class BoundsOfThingsTest {
    private static final int LEAST = Integer.MIN_VALUE, MOST = Integer.MAX_VALUE;

    public static void main(String[] args) {
        emptyShop();
        eightThings();
        pricesOfThings();
        thereUntilBought();
        sevenCustomers();
        coins();
        hands();
        wayAndWishAtFirst();
        rowAtFirst();
        lastInTheRow();
        priceAgainstCoin();
        priceAgainstWish();
        mostWishLessPrice();
        afterBuying();
        asManyAsHands();
        asManyAsThereAre();
        likeOnesByEachWay();
        kindAndSpitefulLastOne();
        rowsThatAreMissing();
        rowsThatEnd();
        rowsNotSo();
        rowsWhenFull();
        rowsFromEachPlace();
        howManyFromARow();
        mendBounds();
        mendNumbers();
        riseAtMost();
        pricesAtMost();
        pricesThatStay();
        ofNumbers();
        ofWhats();
        swapPlaces();
        swapOneAndTheSame();
        swapWhenSomebodyHasBeen();
        lastOfManyCalls();
        Check.end("BoundsOfThingsTest");
    }

    /** "An empty shop." */
    private static void emptyShop() {
        LeftByLast x = new LeftByLast();
        for (int what = 0; what < 8; what++) Check.due("1: count(" + what + ")", x.count(what), 0);
        for (int what = 30; what <= 32; what++) Check.due("1: of(0, " + what + ")", x.of(0, what), 0);
        for (int s = 0; s < 6; s++) {
            Check.due("1: shelf " + s + " holds nothing", x.taken(s, 0), -11);
            Check.due("1: no row on shelf " + s, x.put(s, 0, 1), -11);
        }
        for (int what = 0; what < 4; what++) Check.due("1: day(" + what + ")", x.day(what), 0);
        Check.due("1: nobody visits", x.visit(), -5);
        Check.due("1: nobody has been", x.evening(), 0);
        Check.due("1: no image", x.back(), -5);
        Check.due("1: no change", x.undo() + x.redo(), -10);
        Check.due("1: no trace", x.trace(0), -1);
        Check.due("1: no text on the tape", x.law(), -100);
    }

    /** "THINGS 0 .. 7, as they come"; "BAD, FULL: 8." */
    private static void eightThings() {
        LeftByLast x = new LeftByLast();
        for (int t = 0; t < 8; t++) Check.due("2: the number of thing " + t, x.thing(10 + t), t);
        Check.each("2: full, thing", x::thing, -3, 0, 5, 99);
        Check.each("2: BAD ahead of FULL, thing", x::thing, -1, -1, 100, LEAST, MOST);
        Check.due("2: eight", x.count(0), 8);
        for (int t = 0; t < 8; t++) Check.due("2: the price of thing " + t, x.of(t, 0), 10 + t);
    }

    /** "a PRICE (0 .. 99)". */
    private static void pricesOfThings() {
        LeftByLast x = new LeftByLast();
        Check.each("2: thing", x::thing, -1, -1, 100, -100, 1000, LEAST, MOST);
        Check.due("2: none came", x.count(0), 0);
        Check.due("2: at the least price", x.thing(0), 0);
        Check.due("2: at the most", x.thing(99), 1);
        Check.due("2: the least", x.of(0, 0), 0);
        Check.due("2: the most", x.of(1, 0), 99);
    }

    /** "there as long as nobody has bought them". */
    private static void thereUntilBought() {
        LeftByLast x = Texts.shop(new int[] {10, 10}, 0, 2, 50, 1);
        Texts.wishes(x, 1, 11, 12);
        Check.due("2: both there", x.of(0, 1) + x.of(1, 1), 2);
        x.visit();
        Check.due("2: there, though they are taken up", x.of(0, 1) + x.of(1, 1), 2);
        Check.due("2: bought", x.visit(), 1);
        Check.due("2: there, not bought", x.of(0, 1), 1);
        Check.due("2: bought and gone", x.of(1, 1), 0);
        Check.due("2: one there", x.count(1), 1);
        Check.due("2: still two things", x.count(0), 2);
    }

    /** "CUSTOMERS 0 .. 6, as they come"; "BAD, FULL: 7." */
    private static void sevenCustomers() {
        LeftByLast x = new LeftByLast();
        for (int k = 0; k < 7; k++) Check.due("3: the number of customer " + k, x.customer(20 + k, 1 + k % 2), k);
        Check.each("3: full, coin", coin -> x.customer(coin, 1), -3, 0, 99);
        Check.each("3: BAD ahead of FULL, coin", coin -> x.customer(coin, 1), -1, -1, 100);
        Check.each("3: BAD ahead of FULL, hands", hands -> x.customer(5, hands), -1, 0, 3);
        Check.due("3: seven", x.count(2), 7);
        for (int k = 0; k < 7; k++) {
            Check.due("3: coin of " + k, x.of(k, 10), 20 + k);
            Check.due("3: hands of " + k, x.of(k, 11), 1 + k % 2);
            Check.due("3: place of " + k, x.of(k, 13), k);
        }
    }

    /** "COIN (0 .. 99)". */
    private static void coins() {
        LeftByLast x = new LeftByLast();
        Check.each("3: coin", coin -> x.customer(coin, 1), -1, -1, 100, LEAST, MOST);
        Check.due("3: nobody came", x.count(2), 0);
        Check.due("3: the least coin", x.customer(0, 1), 0);
        Check.due("3: the most coin", x.customer(99, 1), 1);
        Check.due("3: coins are kept", x.of(0, 10) * 100 + x.of(1, 10), 99);
    }

    /** "HANDS (1, 2)". */
    private static void hands() {
        LeftByLast x = new LeftByLast();
        Check.each("3: hands", hands -> x.customer(9, hands), -1, -1, 0, 3, LEAST, MOST);
        Check.due("3: nobody came", x.count(2), 0);
        Check.due("3: one hand", x.customer(9, 1), 0);
        Check.due("3: two hands", x.customer(9, 2), 1);
        Check.due("3: hands are kept", x.of(0, 11) * 10 + x.of(1, 11), 12);
    }

    /** "a WAY (0 at first), WISH for each THING (0 .. 99; 0 at first)". */
    private static void wayAndWishAtFirst() {
        LeftByLast x = new LeftByLast();
        x.thing(1);
        x.customer(1, 1);
        Check.due("3: way at first", x.of(0, 12), 0);
        Check.due("3: wish at first", x.of(0, 20), 0);
        x.mend(0, 3, 99);
        x.mend(0, 2, 4);
        x.thing(1);
        x.customer(1, 1);
        Check.due("3: wish for a thing that came later", x.of(1, 20), 0);
        Check.due("3: wish of one who came later", x.of(10, 20), 0);
        Check.due("3: way of one who came later", x.of(1, 12), 0);
        Check.due("3: has not been at first", x.of(1, 14), 0);
    }

    /** "THE ROW: CUSTOMERS by numbers at first." "LEFT: .. (none at first)." */
    private static void rowAtFirst() {
        LeftByLast x = Texts.shop(new int[] {5}, 9, 1, 9, 1, 9, 1, 9, 1, 9, 1, 9, 1, 9, 1);
        Check.due("3: by numbers", Texts.rowOf(x), "0123456");
        Check.due("6: LEFT none", x.of(0, 31), 0);
        x.mend(0, 3, 99);
        Check.due("10: the first finds nothing", x.buys(0), -2);
        Check.due("20: nor in deed", x.visit(), -2);
    }

    /** "A CUSTOMER, last in THE ROW". */
    private static void lastInTheRow() {
        LeftByLast x = new LeftByLast();
        x.customer(1, 1);
        x.customer(1, 1);
        x.swap(1);
        x.customer(1, 1);
        Check.due("3: last behind a mixed row", Texts.rowOf(x), "102");
        Texts.bytes(x, 0, 5, 1, 0);
        x.customers(0, 0, 1);
        Check.due("4: last, from a row", Texts.rowOf(x), "1023");
        x.visit();
        x.customer(1, 1);
        Check.due("3: last, when somebody has been", Texts.rowOf(x), "10234");
    }

    private static int buysAt(int price, int coin, int wish) {
        LeftByLast x = Texts.shop(new int[] {price}, 0, 1, coin, 1);
        x.mend(10, 3, wish);
        int bought = x.buys(1);
        x.visit();
        Check.due("20: in deed as in thought", x.visit(), bought);
        return bought;
    }

    /** "whose PRICE is no more than its COIN". */
    private static void priceAgainstCoin() {
        Check.due("10: price 20, coin 20", buysAt(20, 20, 99), 0);
        Check.due("10: price 20, coin 19", buysAt(20, 19, 99), -2);
        Check.due("10: price 20, coin 21", buysAt(20, 21, 99), 0);
        Check.due("10: price 0, coin 0", buysAt(0, 0, 1), 0);
        Check.due("10: price 1, coin 0", buysAt(1, 0, 99), -2);
        Check.due("10: price 98, coin 98", buysAt(98, 98, 99), 0);
        Check.due("10: price 98, coin 97", buysAt(98, 97, 99), -2);
    }

    /** "and less than its WISH". */
    private static void priceAgainstWish() {
        Check.due("10: price 20, wish 21", buysAt(20, 99, 21), 0);
        Check.due("10: price 20, wish 20", buysAt(20, 99, 20), -2);
        Check.due("10: price 20, wish 19", buysAt(20, 99, 19), -2);
        Check.due("10: price 0, wish 0", buysAt(0, 99, 0), -2);
        Check.due("10: price 0, wish 1", buysAt(0, 99, 1), 0);
        Check.due("10: price 99, wish 99", buysAt(99, 99, 99), -2);
    }

    /** "it buys that with most WISH less PRICE (of like ones the least number)". */
    private static void mostWishLessPrice() {
        int[][] wishes = {{15, 25}, {15, 26}, {16, 25}, {10, 21}, {11, 20}, {99, 99}};
        int[] want = {0, 1, 0, 1, 0, 0};
        for (int i = 0; i < want.length; i++) {
            LeftByLast x = Texts.shop(new int[] {10, 20}, 0, 2, 99, 1);
            Texts.wishes(x, 1, wishes[i]);
            Check.due("10: wishes " + wishes[i][0] + ", " + wishes[i][1], x.buys(1), want[i]);
        }
    }

    /** "COIN is less by PRICE, the THING is gone, LEFT is none." */
    private static void afterBuying() {
        LeftByLast x = Texts.shop(new int[] {30, 5}, 0, 2, 30, 1, 99, 1);
        Texts.wishes(x, 1, 99, 6);
        Texts.wishes(x, 2, 99, 99);
        x.visit();
        Check.due("20: buys thing 0", x.visit(), 0);
        Check.due("20: all its coin", x.of(1, 10), 0);
        Check.due("20: gone", x.of(0, 1), 0);
        Check.due("20: LEFT none, not what it did not buy", x.of(0, 31), 0);
        Check.due("20: who bought takes up nothing", x.led(1, 1), 0);
        Check.due("20: so the next one buys nothing", x.visit(), -2);
        Check.due("20: and takes up what is there", x.led(2, 1), 2);
    }

    private static int takenUp(int hands, int way, int[] wishes) {
        LeftByLast x = Texts.shop(new int[] {7, 7, 7}, 0, hands, 0, 1);
        Texts.wishes(x, 0, wishes);
        x.mend(0, 2, way);
        x.visit();
        return x.led(0, 1);
    }

    /** "Who bought nothing takes up as many THINGS as it has HANDS .., one by one, those .. that it has not yet". */
    private static void asManyAsHands() {
        Check.due("20: one hand", takenUp(1, 0, new int[] {5, 6, 4}), 2);
        Check.due("20: two hands", takenUp(2, 0, new int[] {5, 6, 4}), 3);
        Check.due("20: two hands, like ones", takenUp(2, 0, new int[] {4, 5, 4}), 3);
        Check.due("20: two hands, all alike", takenUp(2, 0, new int[] {4, 4, 4}), 3);
        Check.due("20: one hand, all alike", takenUp(1, 0, new int[] {4, 4, 4}), 1);
        Check.due("20: what is LEFT may be taken up again", Texts.shop(new int[] {7}, 0, 1, 0, 1).day(3), 1);
    }

    /** "(as many as there are)". */
    private static void asManyAsThereAre() {
        for (int hands = 1; hands <= 2; hands++) {
            for (int way = 0; way <= 4; way++) {
                LeftByLast none = Texts.shop(new int[0], 5, hands, 5, 1);
                none.mend(0, 2, way);
                Check.due("20: no things, way " + way, none.visit(), -2);
                Check.due("20: nothing is taken up, way " + way, none.led(0, 1), 0);
                LeftByLast one = Texts.shop(new int[] {9}, 5, hands, 5, 1);
                one.mend(0, 2, way);
                one.visit();
                Check.due("20: one thing, way " + way, one.led(0, 1), 1);
            }
        }
        LeftByLast x = Texts.shop(new int[] {5, 5}, 0, 2, 50, 2);
        Texts.wishes(x, 1, 50, 0);
        x.visit();
        x.visit();
        x.evening();
        x.visit();
        Check.due("20: two hands, one of two things is there", x.led(0, 1), 2);
        x.mend(11, 3, 50);
        x.visit();
        x.evening();
        x.visit();
        Check.due("20: two hands, none of two things is there", x.led(0, 1), 0);
        Check.due("6: LEFT is none then", x.of(0, 31), 0);
    }

    /** "of like ones the least number", by each WAY. */
    private static void likeOnesByEachWay() {
        for (int way = 0; way <= 4; way++) {
            for (int hands = 1; hands <= 2; hands++) {
                LeftByLast x = Texts.shop(new int[] {8, 8, 8, 8}, 0, hands, 0, 1);
                Texts.wishes(x, 0, 3, 3, 3, 3);
                Texts.wishes(x, 1, 2, 2, 2, 2);
                x.mend(0, 2, way);
                x.visit();
                Check.due("20: all alike by way " + way, x.led(0, 1), hands == 1 ? 1 : 3);
                LeftByLast y = Texts.shop(new int[] {1, 8, 8, 8}, 0, hands, 0, 1);
                Texts.wishes(y, 0, 1, 3, 3, 3);
                Texts.wishes(y, 1, way == 2 ? 9 : 1, 2, 2, 2);
                y.mend(0, 2, way);
                y.visit();
                Check.due("20: but one alike by way " + way, y.led(0, 1), hands == 1 ? 2 : 6);
            }
        }
    }

    /** "1, 2 of the last one: as 0". */
    private static void kindAndSpitefulLastOne() {
        int[] want = {2, 2, 2, 4, 2};
        for (int way = 0; way <= 4; way++) {
            LeftByLast x = Texts.shop(new int[] {8, 9, 10}, 0, 1, 0, 1);
            Texts.wishes(x, 0, 1, 1, 9);
            Texts.wishes(x, 1, 3, 7, 5);
            x.mend(1, 2, way);
            x.visit();
            x.visit();
            Check.due("20: the last one, by way " + way, x.led(1, 1), want[way]);
            Check.due("11: in thought", x.day(3), want[way]);
            x.evening();
            x.swap(1);
            x.visit();
            int[] ahead = {2, 4, 1, 4, 4};
            Check.due("20: ahead of another, by way " + way, x.led(1, 1), ahead[way]);
        }
    }

    /** "it ends where the row is missing"; "a SHELF that holds nothing is missing". */
    private static void rowsThatAreMissing() {
        LeftByLast x = new LeftByLast();
        for (int s = 0; s < 6; s++) Check.due("4: shelf " + s + " is missing", x.customers(s, 0, 7), 0);
        Check.each("4: missing, place", i -> x.customers(0, i, 1), 0, LEAST, -1, 0, 1, 60, MOST);
        x.row(1, 0, 3);
        x.keep(1, -1);
        Check.due("4: emptied", x.customers(1, 0, 1), 0);
        Check.due("4: nobody came", x.count(2), 0);
    }

    /** "it ends where the row .. ends (within a three, too)". */
    private static void rowsThatEnd() {
        for (int size = 0; size <= 9; size++) {
            LeftByLast x = new LeftByLast();
            x.row(0, 0, size);
            for (int i = 0; i < size; i++) x.put(0, i, i % 3 == 0 ? 40 + i : i % 3 == 1 ? 2 : 3);
            Check.due("4: all of " + size + " bytes", x.customers(0, 0, 7), size / 3);
            Check.due("4: so many came", x.count(2), size / 3);
            for (int k = 0; k < size / 3; k++) {
                Check.due("4: coin of " + k, x.of(k, 10), 40 + 3 * k);
                Check.due("4: hands of " + k, x.of(k, 11), 2);
                Check.due("4: way of " + k, x.of(k, 12), 3);
            }
        }
    }

    /** "it ends where .. one is not so". */
    private static void rowsNotSo() {
        int[][] bad = {{-1, 1, 0}, {100, 1, 0}, {-128, 1, 0}, {127, 1, 0}, {5, 0, 0}, {5, 3, 0}, {5, -1, 0}, {5, 1, -1},
            {5, 1, 5}, {5, 1, 127}};
        for (int[] three : bad) {
            LeftByLast x = new LeftByLast();
            Texts.bytes(x, 0, 99, 2, 4, three[0], three[1], three[2], 0, 1, 0);
            String told = three[0] + " " + three[1] + " " + three[2];
            Check.due("4: ends at " + told, x.customers(0, 0, 7), 1);
            Check.due("4: who was ahead came, " + told, x.count(2), 1);
            Check.due("4: from it on, " + told, x.customers(0, 3, 7), 0);
            Check.due("4: from behind it on, " + told, x.customers(0, 6, 7), 1);
        }
    }

    /** "it ends where .. CUSTOMERS are FULL: those ahead came." */
    private static void rowsWhenFull() {
        for (int were = 0; were <= 7; were++) {
            LeftByLast x = new LeftByLast();
            for (int k = 0; k < were; k++) x.customer(1, 1);
            x.row(0, 0, 24);
            for (int i = 0; i < 24; i++) x.put(0, i, i % 3 == 0 ? 50 : 1);
            Check.due("4: seven more than " + were, x.customers(0, 0, 7), 7 - were);
            Check.due("4: seven in all", x.count(2), 7);
            Check.due("4: full", x.customers(0, 0, 1), 0);
        }
    }

    /** "from place i on": no place is refused; from below 0, as from behind the end, the row has ended. */
    private static void rowsFromEachPlace() {
        for (int i = -4; i <= 7; i++) {
            LeftByLast x = new LeftByLast();
            Texts.bytes(x, 0, 2, 2, 2, 2, 2, 2);
            Check.due("4: six bytes, from " + i, x.customers(0, i, 7), i < 0 || i > 3 ? 0 : i == 0 ? 2 : 1);
        }
        LeftByLast x = new LeftByLast();
        Texts.bytes(x, 0, 2, 2, 2);
        x.row(1, 0, 60);
        for (int i = 0; i < 60; i++) x.put(1, i, 1);
        Check.each("4: place", i -> x.customers(0, i, 7), 0, LEAST, LEAST + 1, -60, -3, -1, 1, 3, 60, MOST - 2, MOST);
        Check.each("4: of sixty, place", i -> x.customers(1, i, 7), 0, LEAST, -3, -2, -1, 58, 59, 60, 61, MOST);
        Check.due("4: the last three of sixty", x.customers(1, 57, 7), 1);
        x.body(0);
        x.keep(2, 0);
        x.row(3, 1, 9);
        Check.each("4: a taking, place", i -> x.customers(2, i, 1), -12, LEAST, -1, 0, 9, MOST);
        Check.each("4: shorts, place", i -> x.customers(3, i, 1), -12, LEAST, -1, 0, 9, MOST);
    }

    /** "n (1 .. 7) of them: how many came. BAD, -12 (no ROW of bytes ..)". */
    private static void howManyFromARow() {
        for (int n = 1; n <= 7; n++) {
            LeftByLast x = new LeftByLast();
            x.row(0, 0, 60);
            for (int i = 0; i < 60; i++) x.put(0, i, 2);
            Check.due("4: n " + n, x.customers(0, 3, n), n);
            Check.due("4: no more than n " + n, x.count(2), n);
        }
        LeftByLast x = new LeftByLast();
        Texts.bytes(x, 0, 2, 2, 2);
        x.body(0);
        x.keep(5, 0);
        Check.each("4: n", n -> x.customers(0, 0, n), -1, LEAST, -1, 0, 8, MOST);
        Check.each("4: n, of what is missing", n -> x.customers(4, 0, n), -1, LEAST, 0, 8, MOST);
        Check.each("4: n, of a taking: BAD ahead of -12", n -> x.customers(5, 0, n), -1, LEAST, 0, 8, MOST);
        Check.each("4: shelf", s -> x.customers(s, 0, 1), -1, LEAST, -1, 6, MOST);
        for (int sort = 1; sort <= 4; sort++) {
            x.row(1, sort, 3);
            for (int i = 0; i < 3; i++) x.put(1, i, 1);
            Check.due("4: no bytes but sort " + sort, x.customers(1, 0, 1), -12);
            x.row(1, sort, 0);
            Check.due("4: none of sort " + sort, x.customers(1, 0, 1), -12);
        }
        Check.due("4: a taking", x.customers(5, 0, 1), -12);
        Check.due("4: nobody came", x.count(2), 0);
    }

    /** "PRICE .., COIN .., WAY (2; 0 .. 4) .., WISH .., RISE .. becomes v: what it was. BAD." */
    private static void mendBounds() {
        int[] most = {99, 99, 4, 99, 9};
        int[] asked = {0, 10, 12, 20, 30};
        for (int what = 0; what <= 4; what++) {
            int told = what;
            LeftByLast x = Texts.shop(new int[] {50}, 50, 1);
            int was = x.of(0, asked[what]);
            Check.each("5: what " + what, v -> x.mend(0, told, v), -1, LEAST, -1, most[what] + 1, MOST);
            Check.due("5: as it was, what " + what, x.of(0, asked[what]), was);
            Check.due("5: no change, what " + what, x.count(5), 0);
            Check.due("5: the most, what " + what, x.mend(0, what, most[what]), was);
            Check.due("5: it is the most, what " + what, x.of(0, asked[what]), most[what]);
            Check.due("5: the least, what " + what, x.mend(0, what, 0), most[what]);
            Check.due("5: it is the least, what " + what, x.of(0, asked[what]), 0);
            Check.due("5: the same again, what " + what, x.mend(0, what, 0), 0);
            Check.due("5: two changes, what " + what, x.count(5), 2);
        }
        LeftByLast x = Texts.shop(new int[] {50}, 50, 1);
        Check.each("5: what", what -> x.mend(0, what, 1), -1, LEAST, -1, 5, 10, 20, 30, MOST);
    }

    /** "of a THING, .. of a CUSTOMER, .. of kn, .. (4; number 0)": BAD is each other number. */
    private static void mendNumbers() {
        LeftByLast x = Texts.shop(new int[] {50, 50, 50}, 50, 1, 50, 1);
        Check.each("5: price of", t -> x.mend(t, 0, 1), -1, LEAST, -1, 3, 7, 8, MOST);
        Check.each("5: coin of", k -> x.mend(k, 1, 1), -1, LEAST, -1, 2, 6, 7, MOST);
        Check.each("5: way of", k -> x.mend(k, 2, 1), -1, LEAST, -1, 2, 6, 7, MOST);
        Check.each("5: wish of", kn -> x.mend(kn, 3, 1), -1, LEAST, -10, -9, -1, 3, 9, 13, 19, 20, 22, 67, 100, MOST);
        Check.each("5: rise of", number -> x.mend(number, 4, 1), -1, LEAST, -1, 1, 2, MOST);
        Check.due("5: no change", x.count(5), 0);
        Check.due("5: the last thing", x.mend(2, 0, 1), 50);
        Check.due("5: the last customer", x.mend(1, 1, 1), 50);
        Check.due("5: the last pair", x.mend(12, 3, 1), 0);
    }

    /** "RISE (0 .. 9; 0 at first)". */
    private static void riseAtMost() {
        LeftByLast x = Texts.shop(new int[] {50}, 0, 1);
        Check.due("5: rise at first", x.of(0, 30), 0);
        x.visit();
        Check.due("20: no price moves at first", x.of(0, 0), 50);
        Check.due("5: rise of 9", x.mend(0, 4, 9), 0);
        Check.due("5: rise of 10", x.mend(0, 4, 10), -1);
        x.evening();
        x.visit();
        Check.due("20: by 9", x.of(0, 0), 59);
    }

    /** "PRICE of each THING LEFT is so much more (99 at most)." */
    private static void pricesAtMost() {
        for (int price = 85; price <= 99; price++) {
            LeftByLast x = Texts.shop(new int[] {price}, 0, 1, 99, 1);
            x.mend(0, 4, 9);
            x.mend(10, 3, 99);
            int moved = Math.min(99, price + 9);
            Check.due("11: taken in, from " + price, x.day(1), moved < 99 ? moved : 0);
            x.visit();
            Check.due("20: from " + price, x.of(0, 0), moved);
            Check.due("20: bought, if it is less than the wish, from " + price, x.visit(), moved < 99 ? 0 : -2);
            Check.due("20: 99 stays, from " + price, x.of(0, 0), moved);
        }
    }

    /** "as a VISIT ends PRICE of each THING LEFT": of no other THING, and of none that was bought. */
    private static void pricesThatStay() {
        LeftByLast x = Texts.shop(new int[] {10, 20, 30}, 0, 2, 99, 1);
        Texts.wishes(x, 0, 5, 5, 0);
        Texts.wishes(x, 1, 99, 0, 0);
        x.mend(0, 4, 4);
        x.visit();
        Check.due("20: LEFT moved", x.of(0, 0) * 100 + x.of(1, 0), 1424);
        Check.due("20: not taken up, not moved", x.of(2, 0), 30);
        Check.due("20: buys 0", x.visit(), 0);
        Check.due("20: for what it had come to", x.of(0, 32), 14);
        Check.due("20: none is LEFT, none moved", x.of(0, 0) * 100 + x.of(1, 0), 1424);
    }

    /** "Of a THING .. ; of a CUSTOMER .. ; of kn .. ; number 0 .. BAD." */
    private static void ofNumbers() {
        LeftByLast x = Texts.shop(new int[] {50, 60, 70}, 80, 2, 90, 1);
        for (int what = 0; what <= 1; what++) {
            int told = what;
            Check.each("6: what " + what + " of", t -> x.of(t, told), -1, LEAST, -1, 3, 7, 8, MOST);
        }
        for (int what = 10; what <= 14; what++) {
            int told = what;
            Check.each("6: what " + what + " of", k -> x.of(k, told), -1, LEAST, -1, 2, 6, 7, MOST);
        }
        Check.each("6: wish of", kn -> x.of(kn, 20), -1, LEAST, -10, -9, -1, 3, 9, 13, 19, 20, 22, 67, 100, MOST);
        for (int what = 30; what <= 32; what++) {
            int told = what;
            Check.each("6: what " + what + " of", number -> x.of(number, told), -1, LEAST, -1, 1, 2, MOST);
        }
        Check.due("6: the last thing", x.of(2, 0), 70);
        Check.due("6: the last customer", x.of(1, 10), 90);
        Check.due("6: the last pair", x.of(12, 20), 0);
    }

    /** "0 PRICE, 1 ..; 10 .. 14; 20 ..; 30 .., 31 .., 32 ..": BAD is what is none of these. */
    private static void ofWhats() {
        LeftByLast x = Texts.shop(new int[] {50}, 80, 2);
        Check.each("6: of 0, what", what -> x.of(0, what), -1, LEAST, -1, 2, 3, 4, 9, 15, 19, 21, 29, 33, 40, MOST);
        int[] whats = {0, 1, 10, 11, 12, 13, 14, 20, 30, 31, 32};
        int[] want = {50, 1, 80, 2, 0, 0, 0, 0, 0, 0, 0};
        for (int i = 0; i < whats.length; i++) Check.due("6: of(0, " + whats[i] + ")", x.of(0, whats[i]), want[i]);
        LeftByLast none = new LeftByLast();
        Check.each("6: nobody, nothing, what", what -> none.of(0, what), -1, 0, 1, 10, 11, 12, 13, 14, 20);
    }

    /** "places i and j (ij: 10 i and j) change: who is at i then. BAD". */
    private static void swapPlaces() {
        LeftByLast x = Texts.shop(new int[] {5}, 1, 1, 1, 1, 1, 1, 1, 1, 1, 1, 1, 1, 1, 1);
        for (int i = 0; i < 7; i++) {
            for (int j = 0; j < 7; j++) {
                if (i == j) continue;
                Check.due("7: swap(" + i + j + ")", x.swap(10 * i + j), j);
                Check.due("7: at " + i, x.of(j, 13), i);
                Check.due("7: at " + j, x.of(i, 13), j);
                Check.due("7: and back, " + i + j, x.swap(10 * j + i), j);
                Check.due("7: by numbers again, " + i + j, x.of(i, 13) * 10 + x.of(j, 13), 10 * i + j);
            }
        }
        Check.each("7: ij", x::swap, -1, LEAST, -10, -1, 7, 8, 9, 17, 70, 71, 76, 100, 101, 1001, MOST);
        Check.due("7: by numbers", Texts.rowOf(x), "0123456");
        LeftByLast two = Texts.shop(new int[] {5}, 1, 1, 1, 1);
        Check.each("7: two alone, ij", two::swap, -1, 2, 12, 20, 21, 9, 90);
        Check.due("7: the last place", two.swap(10), 0);
        Check.each("7: nobody, ij", new LeftByLast()::swap, -1, 0, 1, 10);
    }

    /** "BAD (one and the same)". */
    private static void swapOneAndTheSame() {
        LeftByLast x = Texts.shop(new int[] {5}, 1, 1, 1, 1, 1, 1, 1, 1, 1, 1, 1, 1, 1, 1);
        Check.each("7: one and the same, ij", x::swap, -1, 0, 11, 22, 33, 44, 55, 66, 77, 88, 99);
        Check.due("7: by numbers", Texts.rowOf(x), "0123456");
    }

    /** "STATE: somebody has been." */
    private static void swapWhenSomebodyHasBeen() {
        LeftByLast x = Texts.shop(new int[] {5}, 1, 1, 1, 1, 1, 1);
        x.visit();
        Check.each("7: one has been, ij", x::swap, -5, 1, 10, 12, 20);
        Check.each("7: BAD ahead of STATE, ij", x::swap, -1, -1, 0, 22, 3, 30);
        x.visit();
        x.visit();
        Check.due("7: all have been", x.swap(1), -5);
        Check.due("7: by numbers", Texts.rowOf(x), "012");
        x.evening();
        Check.due("7: nobody has been", x.swap(2), 2);
    }

    /** "An object is used for at most 512 calls": the last of them answers, too. */
    private static void lastOfManyCalls() {
        LeftByLast x = new LeftByLast();
        x.thing(0);
        x.customer(1, 1);
        for (int call = 3; call <= 510; call++) {
            int v = call % 100;
            int was = (call - 1) % 100;
            Check.due("5: call " + call, x.mend(0, 0, v), call == 3 ? 0 : was);
        }
        Check.due("28: call 511", x.undo(), 39);
        Check.due("6: call 512", x.of(0, 0), 9);
    }
}
