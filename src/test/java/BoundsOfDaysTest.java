/** Each sentence of the terms' second part, and of promises 10 to 19, that names a bound: a test of its own. */
public final class BoundsOfDaysTest {
    private static final int LEAST = Integer.MIN_VALUE, MOST = Integer.MAX_VALUE, VOID = -2000000000;

    public static void main(String[] args) {
        nobodyAndNothing();
        noThings();
        noCustomers();
        customersThatAreNot();
        whatsThatAreNot();
        placesInARowThatAreNot();
        thingsThatAreNot();
        boughtTheFirstAndTheLast();
        fromLeftAsItIs();
        sumsBeginAnew();
        mostOfADay();
        leftAtTheEnd();
        orderOfOneAndTwo();
        orderOfLikeRows();
        orderOneByOne();
        orderOfTheLastRow();
        orderOfKindOnes();
        orderFromLeft();
        changeOfEachPair();
        changeOfLikeOnes();
        changeIfMore();
        changeOfFew();
        placeOfTheFirst();
        placeOfWhoBuysNothing();
        placeAtMostAndLeast();
        placeByTheOneJustAhead();
        friendsAllSix();
        friendsFewest();
        friendsLeastBits();
        friendsWhoBuy();
        friendsOfTheFirst();
        friendsOfWhatIsGone();
        friendsNobodyHasToBe();
        friendsOfEachPair();
        nephewAtEachPlace();
        nephewIfMore();
        nephewAtTheLeastPlace();
        nephewWithTheLeastThing();
        nephewThingGoneThen();
        nephewIsNotKnown();
        nephewBehindAll();
        priceLeastOfLikeOnes();
        priceFromOneToMost();
        priceOfWhatIsGone();
        priceOfEach();
        enoughBounds();
        enoughWhateverItHas();
        riseForBounds();
        riseForWhateverItIs();
        eachThoughtBehindEachOther();
        Check.end("BoundsOfDaysTest");
    }

    /** A shop that is empty: what is asked of nobody is BAD, a day has no sums, and nothing is best. */
    private static void nobodyAndNothing() {
        LeftByLast x = new LeftByLast();
        Check.each("10: nobody, buys", x::buys, -1, LEAST, -1, 0, 1, 7, MOST);
        Check.each("11: nobody, day", x::day, 0, 0, 1, 2, 3);
        for (int measure = 0; measure <= 2; measure++) {
            int told = measure;
            Check.due("12: nobody, how much", x.order(measure, -1), 0);
            Check.each("12: nobody, k", k -> x.order(told, k), -1, LEAST, -2, 0, 1, 7, MOST);
            Check.due("13: nobody", x.change(measure), -2);
        }
        Check.each("14: nobody, place", x::place, VOID, LEAST, -1, 0, 1, 7, MOST);
        Check.each("15: nobody, friends", x::friends, -1, LEAST, -1, 0, 1, 10, MOST);
        Check.each("16: nobody, nephew", x::nephew, -2, 0, 1);
        Check.each("17: nothing, price", x::price, -1, LEAST, -1, 0, 1, 8, MOST);
        Check.each("18: nobody, enough", x::enough, -1, LEAST, -1, 0, 1, 7, MOST);
        Check.due("19: nobody", x.riseFor(), -2);
    }

    /** CUSTOMERS, and no THING. */
    private static void noThings() {
        LeftByLast x = Texts.shop(new int[0], 99, 2, 99, 1, 0, 1);
        x.mend(0, 4, 9);
        for (int way = 0; way <= 4; way++) {
            for (int k = 0; k < 3; k++) x.mend(k, 2, way);
            Check.each("10: no things, buys", x::buys, -2, 0, 1, 2);
            Check.each("11: no things, day", x::day, 0, 0, 1, 2, 3);
            Check.each("14: no things, place", x::place, 0, 0, 1, 2);
            Check.each("18: no things, enough", x::enough, -2, 0, 1, 2);
        }
        for (int measure = 0; measure <= 2; measure++) {
            Check.due("12: no things, how much", x.order(measure, -1), 0);
            for (int k = 0; k < 3; k++) Check.due("12: by numbers, " + k, x.order(measure, k), k);
            Check.due("13: no things", x.change(measure), -2);
        }
        Check.each("15: no things, friends", x::friends, -1, 0, 1, 10, 20);
        Check.each("16: no things, nephew", x::nephew, -2, 0, 1);
        Check.due("17: no things", x.price(0), -1);
        Check.due("19: no things", x.riseFor(), -2);
    }

    /** THINGS, and no CUSTOMER. */
    private static void noCustomers() {
        LeftByLast x = Texts.shop(new int[] {0, 50, 99});
        x.mend(0, 4, 9);
        Check.each("11: no customers, day", x::day, 0, 0, 1, 2, 3);
        Check.each("16: no customers, nephew", x::nephew, -2, 0, 1);
        Check.each("17: no customers, price", x::price, 0, 0, 1, 2);
        Check.due("19: no customers", x.riseFor(), -2);
        Check.each("15: no customers, friends", x::friends, -1, 0, 1, 2, 10);
        Check.due("12: no customers", x.order(1, -1), 0);
    }

    private static LeftByLast threeAndThree() {
        return Texts.shop(new int[] {10, 20, 30}, 99, 1, 99, 1, 99, 1);
    }

    /** "BAD": of promise 14 VOID is that, of 10, 15 and 18 it is -1. */
    private static void customersThatAreNot() {
        LeftByLast x = threeAndThree();
        int[] bad = {LEAST, LEAST + 1, -100, -2, -1, 3, 4, 6, 7, 8, 10, 100, MOST - 1, MOST};
        Check.each("10: buys", x::buys, -1, bad);
        Check.each("14: place", x::place, VOID, bad);
        Check.each("18: enough", x::enough, -1, bad);
        Check.each("15: friends", x::friends, -1, LEAST, -30, -10, -1, 30, 31, 40, 60, 70, 72, 100, 1000, MOST);
        LeftByLast seven = Texts.shop(new int[] {10}, 1, 1, 1, 1, 1, 1, 1, 1, 1, 1, 1, 1, 1, 1);
        Check.due("10: the seventh", seven.buys(6), -2);
        Check.due("14: the seventh", seven.place(6), 0);
        Check.due("15: the seventh", seven.friends(60), -2);
        Check.due("18: the seventh", seven.enough(6), -2);
        Check.each("10: no eighth, buys", seven::buys, -1, 7, 8);
        Check.each("14: no eighth, place", seven::place, VOID, 7, 8);
        Check.each("15: no eighth, friends", seven::friends, -1, 70, 80);
        Check.each("18: no eighth, enough", seven::enough, -1, 7, 8);
    }

    /** "SERVED (what 0), TAKEN IN (1), JOY (2), LEFT at the end (3). BAD."; "measure 0 .. 2"; "(what 0), how much (1)". */
    private static void whatsThatAreNot() {
        LeftByLast x = threeAndThree();
        Check.each("11: day", x::day, -1, LEAST, -2, -1, 4, 5, 10, MOST);
        Check.each("12: measure", measure -> x.order(measure, -1), -1, LEAST, -1, 3, 4, MOST);
        Check.each("12: measure of the 0th", measure -> x.order(measure, 0), -1, LEAST, -1, 3, 4, MOST);
        Check.each("13: measure", x::change, -1, LEAST, -1, 3, 4, MOST);
        Check.each("16: what", x::nephew, -1, LEAST, -1, 2, 3, MOST);
    }

    /** "how much (k -1), who is k-th. BAD." */
    private static void placesInARowThatAreNot() {
        LeftByLast x = threeAndThree();
        for (int measure = 0; measure <= 2; measure++) {
            int told = measure;
            Check.each("12: k", k -> x.order(told, k), -1, LEAST, -3, -2, 3, 4, 7, MOST);
            Check.due("12: the first", x.order(measure, 0), 0);
            Check.due("12: the last", x.order(measure, 2), 2);
        }
    }

    /** "PRICE of a THING by which TAKEN IN is most. BAD."; "FRIENDS (kn) .. BAD". */
    private static void thingsThatAreNot() {
        LeftByLast x = threeAndThree();
        Check.each("17: price", x::price, -1, LEAST, -1, 3, 4, 7, 8, MOST);
        Check.each("15: friends", x::friends, -1, 3, 7, 8, 9, 13, 18, 19, 23, 29);
        LeftByLast eight = Texts.shop(new int[] {1, 1, 1, 1, 1, 1, 1, 1}, 1, 1);
        Check.due("17: the eighth", eight.price(7), 0);
        Check.due("15: the eighth", eight.friends(7), -2);
        Check.each("15: no ninth, friends", eight::friends, -1, 8, 9);
        Check.each("17: no ninth, price", eight::price, -1, 8, 9);
    }

    /** "What a CUSTOMER buys .. NOT": THING 0 is something, and THING 7, too. */
    private static void boughtTheFirstAndTheLast() {
        for (int t = 0; t < 8; t++) {
            LeftByLast x = Texts.shop(new int[] {5, 5, 5, 5, 5, 5, 5, 5}, 0, 1, 5, 1);
            x.mend(t, 3, 1);
            x.mend(10 + t, 3, 6);
            Check.due("10: thing " + t, x.buys(1), t);
            Check.due("10: nothing", x.buys(0), -2);
            Check.due("11: for 5", x.day(1), 5);
            Check.due("18: for 5", x.enough(1), 5);
            Check.due("15: it is " + t, x.friends(10 + t), 0);
        }
    }

    /** "VISITS in THE ROW, from LEFT as it is." */
    private static void fromLeftAsItIs() {
        LeftByLast x = Texts.shop(new int[] {10, 20}, 50, 1);
        Texts.wishes(x, 0, 30, 40);
        Check.due("11: none LEFT", x.day(0), 0);
        Check.due("10: none LEFT", x.buys(0), -2);
        x.visit();
        Check.due("11: thing 1 is LEFT", x.day(1), 20);
        Check.due("10: thing 1 is LEFT", x.buys(0), 1);
        Check.due("18: thing 1 is LEFT", x.enough(0), 20);
        Check.due("15: thing 1 is LEFT", x.friends(1), 0);
        Check.due("15: thing 0 is not", x.friends(0), -2);
        Check.due("17: thing 1 is LEFT", x.price(1), 39);
        x.evening();
        Check.due("11: an evening leaves it", x.day(1), 20);
        x.visit();
        Check.due("11: bought in deed: none LEFT", x.day(0), 0);
        Check.due("11: thing 0 is at the end", x.day(3), 1);
    }

    /** SERVED, TAKEN IN and JOY of a DAY have nothing of what was bought in deed. */
    private static void sumsBeginAnew() {
        LeftByLast x = Texts.shop(new int[] {10, 20}, 0, 1, 50, 1);
        Texts.wishes(x, 0, 1, 0);
        Texts.wishes(x, 1, 30, 45);
        x.visit();
        Check.due("20: thing 0", x.visit(), 0);
        Check.due("6: taken in, in deed", x.of(0, 32), 10);
        for (int round = 0; round < 2; round++) {
            Check.due("11: SERVED", x.day(0), 1);
            Check.due("11: TAKEN IN", x.day(1), 20);
            Check.due("11: JOY", x.day(2), 25);
            Check.due("12: most SERVED", x.order(0, -1), 1);
            Check.due("12: most JOY", x.order(2, -1), 25);
            Check.due("13: no more", x.change(2), -2);
            x.evening();
        }
        x.visit();
        Check.due("20: thing 1", x.visit(), 1);
        Check.due("6: both, in deed", x.of(0, 32), 30);
        Check.each("11: nothing is there, day", x::day, 0, 0, 1, 2, 3);
    }

    /** Four of seven buy if something was LEFT, for 98 each; or for 0, with JOY of 99 each. */
    private static void mostOfADay() {
        for (int price : new int[] {0, 98}) {
            LeftByLast x = Texts.shop(new int[] {price, price, price, price, price}, 99, 1, 99, 1, 99, 1, 99, 1, 99, 1, 99, 1,
                99, 1);
            x.visit();
            x.evening();
            for (int k = 0; k < 7; k++) Texts.wishes(x, k, 99, 99, 99, 99, 99);
            Check.due("11: SERVED, price " + price, x.day(0), 4);
            Check.due("11: TAKEN IN, price " + price, x.day(1), 4 * price);
            Check.due("11: JOY, price " + price, x.day(2), 4 * (99 - price));
            Check.due("11: LEFT, price " + price, x.day(3), 0);
            Check.due("12: so in each order, price " + price, x.order(1, -1), 4 * price);
            for (int k = 0; k < 7; k++) Check.due("12: by numbers, " + k, x.order(2, k), k);
            Check.due("13: so by each change, price " + price, x.change(0), -2);
            for (int k = 0; k < 7; k++) Check.due("10: " + k + ", price " + price, x.buys(k), k % 2 == 0 ? k / 2 : -2);
        }
    }

    /** "LEFT at the end (3)": bits of what the last one took up. */
    private static void leftAtTheEnd() {
        for (int t = 0; t < 8; t++) {
            LeftByLast x = Texts.shop(new int[] {5, 5, 5, 5, 5, 5, 5, 5}, 0, 1, 0, 2);
            x.mend(10 + t, 3, 2);
            Check.due("11: and the least of like ones, " + t, x.day(3), 1 << t | (t == 0 ? 2 : 1));
            x.mend(17, 3, 1);
            if (t < 7) Check.due("11: and the eighth, " + t, x.day(3), 1 << t | 128);
        }
    }

    /** "of all rows of CUSTOMERS": one row of one, two of two. */
    private static void orderOfOneAndTwo() {
        LeftByLast one = Texts.shop(new int[] {4}, 9, 1);
        one.mend(0, 3, 9);
        Check.due("12: one alone finds nothing", one.order(0, -1), 0);
        Check.due("12: the 0th of one", one.order(0, 0), 0);
        Check.due("12: no 1st of one", one.order(0, 1), -1);
        one.visit();
        Check.due("12: one alone, what it left", one.order(1, -1), 4);
        LeftByLast two = Texts.shop(new int[] {4}, 9, 1, 0, 1);
        two.mend(0, 3, 9);
        Check.due("12: 1 0 is better", two.order(2, -1), 5);
        Check.due("12: 1 is 0th", two.order(2, 0), 1);
        Check.due("12: 0 is 1st", two.order(2, 1), 0);
        Check.due("12: no 2nd of two", two.order(2, 2), -1);
        two.swap(1);
        Check.due("12: 1 is 0th, whatever THE ROW is", two.order(2, 0), 1);
        Check.due("12: by another measure, too", two.order(0, 0), 1);
    }

    private static String order(LeftByLast x, int measure) {
        StringBuilder all = new StringBuilder();
        for (int k = 0; k < x.count(2); k++) all.append(x.order(measure, k));
        return all.toString();
    }

    /** "of like ones the first by numbers": all rows alike, by each count of CUSTOMERS. */
    private static void orderOfLikeRows() {
        LeftByLast x = Texts.shop(new int[] {5, 6});
        String numbers = "";
        for (int k = 0; k < 7; k++) {
            x.customer(0, 1);
            numbers += k;
            Check.due("12: none buys, " + (k + 1) + " of them", order(x, k % 3), numbers);
        }
        Texts.layRow(x, 6, 5, 4, 3, 2, 1, 0);
        Check.due("12: whatever THE ROW is", order(x, 2), numbers);
    }

    /** "of like ones the first by numbers, one by one": the least ahead, then the least behind it. */
    private static void orderOneByOne() {
        // 3 buys what any other one shows it; 0 has no part in it.
        LeftByLast x = Texts.shop(new int[] {5}, 0, 1, 0, 1, 0, 1, 9, 1);
        x.mend(30, 3, 9);
        Check.due("12: as it is", order(x, 0), "0123");
        // 1 alone shows thing 1, and 3 alone buys it.
        LeftByLast y = Texts.shop(new int[] {5, 5}, 0, 1, 0, 1, 0, 1, 9, 1);
        y.mend(11, 3, 1);
        y.mend(31, 3, 9);
        Check.due("12: 1 just ahead of 3, 0 and 2 as early as can be", order(y, 1), "0132");
        y.mend(11, 3, 0);
        y.mend(21, 3, 1);
        Check.due("12: 2 just ahead of 3", order(y, 1), "0123");
        y.mend(21, 3, 0);
        y.mend(1, 3, 1);
        Check.due("12: 0 just ahead of 3", order(y, 1), "0312");
        // 1 is to buy from 3, and 0 from 2: of 2 0 3 1, 3 1 2 0 the first.
        LeftByLast z = Texts.shop(new int[] {5, 5, 5}, 9, 1, 9, 1, 0, 1, 0, 1);
        z.mend(2, 3, 9);
        z.mend(11, 3, 9);
        z.mend(22, 3, 1);
        z.mend(31, 3, 1);
        Check.due("12: two pairs", order(z, 0), "2031");
    }

    /** Who is wanted just ahead: 6, 5, .. 1 show thing 1 if the next number comes, and 0 buys what has risen. */
    private static LeftByLast lastRowBest() {
        LeftByLast x = Texts.shop(new int[] {99, 10}, 99, 1, 0, 1, 0, 1, 0, 1, 0, 1, 0, 1, 0, 1);
        x.mend(0, 4, 9);
        x.mend(1, 3, 99);
        for (int k = 0; k < 7; k++) x.mend(k, 2, 4);
        for (int k = 1; k < 7; k++) x.mend(10 * k + 1, 3, k);
        Texts.law(x, "n=1&(x=k-1|x=99&k=1)");
        return x;
    }

    /** Of all 5040 rows of seven the last one. */
    private static void orderOfTheLastRow() {
        LeftByLast x = lastRowBest();
        Check.due("12: six rises", x.order(1, -1), 64);
        Check.due("12: the last of all rows", order(x, 1), "6543210");
        Check.due("12: JOY is most by one rise", x.order(2, -1), 80);
        Check.due("12: 1 ahead of 0, the others by numbers", order(x, 2), "1023456");
        Check.due("12: SERVED is one", x.order(0, -1), 1);
        Check.due("12: the first row that serves one", order(x, 0), "1023456");
    }

    /** A kind one takes up what the one behind it wishes, so a row that is alike up to it is another to it. */
    private static void orderOfKindOnes() {
        LeftByLast x = Texts.shop(new int[] {5, 5, 5}, 0, 1, 9, 1, 9, 1);
        x.mend(0, 2, 1);
        Texts.wishes(x, 1, 0, 6, 0);
        Texts.wishes(x, 2, 0, 0, 9);
        Check.due("12: 0 shows 1 its own", x.day(2), 1);
        Check.due("12: 0 shows 2 its own", x.order(2, -1), 4);
        Check.due("12: 2 just behind 0", order(x, 2), "021");
        x.mend(0, 2, 2);
        x.mend(20, 3, 8);
        x.mend(21, 3, 8);
        Texts.wishes(x, 1, 9, 9, 6);
        Check.due("12: 0 shows 1 what it wishes least", x.day(2), 1);
        Check.due("12: and 2, too", x.order(2, -1), 3);
        Check.due("12: 2 just behind the spiteful 0", order(x, 2), "021");
    }

    /** A DAY of another row is from LEFT as it is, too, and of THINGS that are there. */
    private static void orderFromLeft() {
        LeftByLast x = Texts.shop(new int[] {10, 20}, 0, 1, 50, 1, 50, 1);
        Texts.wishes(x, 0, 5, 0);
        Texts.wishes(x, 1, 30, 0);
        Texts.wishes(x, 2, 40, 0);
        x.mend(1, 2, 3);
        x.mend(2, 2, 3);
        x.visit();
        // Thing 0 is LEFT; 0 takes up thing 1 from now on, as the others do, since it is the dearest.
        Texts.wishes(x, 0, 0, 5);
        Check.due("12: 2 buys what is LEFT", x.order(2, -1), 30);
        Check.due("12: 2 first", order(x, 2), "201");
        x.mend(21, 3, 60);
        Check.due("12: 1 buys what is LEFT, 2 what 0 shows", x.order(2, -1), 60);
        Check.due("12: by 1 0 2", order(x, 2), "102");
        x.visit();
        x.evening();
        Check.due("12: thing 0 is gone", x.order(2, -1), 40);
        Check.due("12: any one shows thing 1", order(x, 2), "012");
    }

    /** "the pair of places (i below j) in THE ROW": each of 21, by which the one best row comes. */
    private static void changeOfEachPair() {
        for (int i = 0; i < 7; i++) {
            for (int j = i + 1; j < 7; j++) {
                int[] row = {6, 5, 4, 3, 2, 1, 0};
                row[i] = 6 - j;
                row[j] = 6 - i;
                LeftByLast x = lastRowBest();
                Texts.layRow(x, row);
                Check.due("13: from " + Texts.rowOf(x), x.change(1), 10 * i + j);
            }
        }
        LeftByLast x = lastRowBest();
        Texts.layRow(x, 6, 5, 4, 3, 2, 1, 0);
        Check.due("13: no better", x.change(1), -2);
    }

    /** "of like ones the first". */
    private static void changeOfLikeOnes() {
        // One who has coin stands first; all others show thing 0, so it may stand at any place but the first.
        LeftByLast x = Texts.shop(new int[] {5}, 9, 1, 0, 1, 0, 1, 0, 1, 0, 1, 0, 1, 0, 1);
        x.mend(0, 3, 9);
        for (int measure = 0; measure <= 2; measure++) Check.due("13: 0 and 1", x.change(measure), 1);
        // 6 alone shows thing 1, and the others but 0 buy it.
        LeftByLast y = Texts.shop(new int[] {5, 5}, 0, 1, 9, 1, 9, 1, 9, 1, 9, 1, 9, 1, 0, 1);
        for (int k = 1; k < 6; k++) y.mend(10 * k + 1, 3, 9);
        for (int k = 1; k < 6; k++) y.mend(10 * k, 3, 9);
        y.mend(0, 0, 9);
        y.mend(61, 3, 1);
        for (int k = 1; k < 6; k++) y.mend(k, 2, 3);
        Check.due("13: 6 goes first: 0 and 6", y.change(0), 6);
        y.swap(6);
        Check.due("13: it stands first", y.change(0), -2);
    }

    /** "if it is more than without": as much is NOT. */
    private static void changeIfMore() {
        LeftByLast x = Texts.shop(new int[] {5}, 0, 1, 9, 1, 9, 1);
        x.mend(10, 3, 8);
        x.mend(20, 3, 8);
        for (int measure = 0; measure <= 2; measure++) Check.due("13: as much, measure " + measure, x.change(measure), -2);
        x.mend(20, 3, 9);
        Check.due("13: SERVED is as much", x.change(0), -2);
        Check.due("13: TAKEN IN is as much", x.change(1), -2);
        Check.due("13: one more JOY, by 1 0 2 or 0 2 1", x.change(2), 1);
        x.mend(20, 3, 7);
        Check.due("13: one less JOY", x.change(2), -2);
    }

    private static void changeOfFew() {
        LeftByLast x = Texts.shop(new int[] {5}, 9, 1);
        x.mend(0, 3, 9);
        for (int measure = 0; measure <= 2; measure++) Check.due("13: one has no pair, " + measure, x.change(measure), -2);
        x.customer(0, 1);
        for (int measure = 0; measure <= 2; measure++) Check.due("13: two have one, " + measure, x.change(measure), 1);
    }

    /** "(of the first one 0)", whatever it buys. */
    private static void placeOfTheFirst() {
        LeftByLast x = Texts.shop(new int[] {5, 7}, 9, 1, 9, 1);
        Texts.wishes(x, 0, 9, 0);
        Texts.wishes(x, 1, 9, 0);
        Check.due("14: the first, nothing LEFT", x.place(0), 0);
        x.visit();
        Check.due("14: the first, who buys", x.place(0), 0);
        Check.due("14: the second would be first, and buy", x.place(1), 4);
        x.evening();
        x.swap(1);
        Check.due("14: by THE ROW: 1 is the first", x.place(1), 0);
        Check.due("14: by THE ROW: 0 is the second", x.place(0), 4);
        Check.due("14: one alone", Texts.shop(new int[] {5}, 9, 1).place(0), 0);
    }

    /** "(WISH less PRICE of what it buys; 0)". */
    private static void placeOfWhoBuysNothing() {
        LeftByLast x = Texts.shop(new int[] {5, 6}, 0, 1, 0, 1, 0, 1, 99, 1);
        Texts.wishes(x, 0, 1, 0);
        Texts.wishes(x, 1, 1, 0);
        Texts.wishes(x, 2, 0, 1);
        Texts.wishes(x, 3, 0, 0);
        Check.due("14: nothing here, nothing there", x.place(3), 0);
        x.mend(31, 3, 7);
        Check.due("14: 1 here, nothing there", x.place(3), -1);
        x.mend(30, 3, 9);
        Check.due("14: 1 here, 4 there", x.place(3), 3);
        x.mend(31, 3, 6);
        Check.due("14: nothing here, 4 there", x.place(3), 4);
        x.mend(31, 3, 10);
        Check.due("14: 4 here, 4 there", x.place(3), 0);
    }

    /** From 99 less to 99 more. */
    private static void placeAtMostAndLeast() {
        LeftByLast x = Texts.shop(new int[] {0, 0}, 0, 1, 0, 1, 0, 1);
        Texts.wishes(x, 0, 1, 0);
        Texts.wishes(x, 1, 0, 1);
        x.mend(2, 2, 3);
        x.mend(0, 0, 1);
        x.mend(21, 3, 99);
        Check.due("14: 99 less", x.place(2), -99);
        x.mend(21, 3, 0);
        x.mend(20, 3, 99);
        x.mend(0, 0, 0);
        Check.due("14: 99 more", x.place(2), 99);
    }

    /** "if it changed with the one just ahead": with no other, in THE ROW as it is. */
    private static void placeByTheOneJustAhead() {
        LeftByLast x = Texts.shop(new int[] {5, 5, 5}, 0, 1, 0, 1, 0, 1, 9, 1);
        for (int k = 0; k < 3; k++) x.mend(11 * k, 3, 1);
        Texts.wishes(x, 3, 6, 7, 8);
        int[][] rows = {{0, 1, 2, 3}, {0, 2, 1, 3}, {1, 0, 2, 3}, {2, 1, 0, 3}, {0, 1, 3, 2}, {2, 0, 3, 1}, {1, 3, 0, 2},
            {3, 0, 1, 2}};
        int[] want = {2 - 3, 3 - 2, 1 - 3, 2 - 1, 1 - 2, 3 - 1, -2, 0};
        for (int i = 0; i < rows.length; i++) {
            Texts.layRow(x, rows[i]);
            Check.due("14: in " + Texts.rowOf(x), x.place(3), want[i]);
        }
    }

    /** "of all sets of CUSTOMERS ahead of it": all six of them have to be friends. */
    private static void friendsAllSix() {
        LeftByLast x = Texts.shop(new int[] {10, 20}, 0, 1, 0, 1, 0, 1, 0, 1, 0, 1, 0, 1, 99, 1);
        Check.due("15: no wish for it", x.friends(60), -2);
        x.mend(60, 3, 11);
        Check.due("15: of like ones all take up thing 0", x.friends(60), 0);
        for (int k = 0; k < 6; k++) x.mend(10 * k + 1, 3, 9);
        Check.due("15: one of six, just ahead", x.friends(60), 32);
        Check.due("15: thing 1 has no wish", x.friends(61), -2);
        // Dear things are taken up by 5; thing 0 rises by each friend, and has to be the dearest.
        x.mend(0, 4, 9);
        x.mend(1, 0, 20);
        x.mend(5, 2, 3);
        x.mend(60, 3, 99);
        Check.due("15: still 5 alone", x.friends(60), 32);
        x.mend(5, 1, 99);
        x.mend(5, 2, 0);
        x.mend(50, 3, 55);
        x.mend(51, 3, 90);
        Check.due("15: 5 buys thing 1 at 65, and shows nothing", x.buys(5), 1);
        x.mend(61, 3, 99);
        Check.due("15: five ahead of 5, who may not buy it at 55, and 5", x.friends(60), 63);
    }

    /** "that with fewest": one with more bits ahead of two with less. */
    private static void friendsFewest() {
        LeftByLast x = Texts.shop(new int[] {10, 17}, 0, 1, 0, 1, 0, 1, 99, 1);
        x.mend(0, 4, 5);
        for (int k = 0; k < 2; k++) x.mend(10 * k + 1, 3, 9);
        x.mend(2, 2, 3);
        x.mend(30, 3, 99);
        // By 0 and 1 thing 0 comes to 20, dearer than 17, and 2 takes it up; by 2 it is shown at once.
        Check.due("15: 2 alone, not 0 and 1", x.friends(30), 4);
        x.mend(2, 1, 99);
        x.mend(21, 3, 99);
        Check.due("15: 2 would buy thing 1 from 1", x.buys(2), 1);
        Check.due("15: 0 and 1, as 2 alone buys", x.friends(30), 3);
    }

    /** "(of like ones the least bits)". */
    private static void friendsLeastBits() {
        LeftByLast x = Texts.shop(new int[] {10, 17}, 0, 1, 0, 1, 99, 1);
        x.mend(0, 4, 9);
        x.mend(0, 2, 3);
        x.mend(1, 2, 3);
        x.mend(20, 3, 99);
        Check.due("15: 0 or 1: 0", x.friends(20), 1);
        x.swap(1);
        Check.due("15: 0 or 1, in another row: 0", x.friends(20), 1);
        x.swap(12);
        Check.due("15: 1 alone is ahead", x.friends(20), 2);
    }

    /** "a friend who buys nothing takes up that THING alone": who buys shows nothing. */
    private static void friendsWhoBuy() {
        LeftByLast x = Texts.shop(new int[] {5, 6, 7}, 0, 2, 9, 2, 50, 1);
        Texts.wishes(x, 0, 3, 2, 0);
        Texts.wishes(x, 1, 9, 0, 0);
        Texts.wishes(x, 2, 0, 0, 50);
        Check.due("15: 1 buys thing 0, so 2 sees nothing", x.buys(1), 0);
        Check.due("15: 0 shows thing 2 alone, and 1 shows it on", x.friends(22), 3);
        x.mend(12, 3, 8);
        Check.due("15: 1 would buy thing 2 itself", x.friends(22), -2);
        Check.due("15: 0 shows it to 1", x.friends(12), 1);
    }

    /** "NOT": of the first one, but for what is LEFT. */
    private static void friendsOfTheFirst() {
        LeftByLast x = Texts.shop(new int[] {5, 5}, 9, 1, 9, 1);
        Texts.wishes(x, 0, 9, 9);
        Check.each("15: nobody is ahead", x::friends, -2, 0, 1);
        x.visit();
        Check.due("15: it is LEFT", x.friends(0), 0);
        Check.due("15: the other is not", x.friends(1), -2);
        x.evening();
        x.swap(1);
        Check.due("15: 1 takes up thing 0", x.friends(0), 0);
        Check.due("15: 1 has to show thing 1", x.friends(1), 2);
    }

    /** "(nothing, if it is gone)". */
    private static void friendsOfWhatIsGone() {
        LeftByLast x = Texts.shop(new int[] {5, 5, 6}, 9, 1, 9, 1, 20, 1);
        Texts.wishes(x, 0, 9, 0, 0);
        Texts.wishes(x, 1, 9, 0, 0);
        Texts.wishes(x, 2, 30, 30, 0);
        x.visit();
        x.visit();
        Check.due("15: thing 0 was bought", x.of(0, 1), 0);
        Check.due("15: nobody can show it", x.friends(20), -2);
        Check.due("15: but thing 1", x.friends(21), 0);
        x.mend(2, 3, 1);
        x.mend(12, 3, 1);
        Check.due("15: thing 1 has to be shown", x.friends(21), 2);
        Check.due("15: to 0, too: nothing is LEFT", x.friends(0), -2);
        // 0 and 1 buy it in the day, ahead of 2.
        LeftByLast y = Texts.shop(new int[] {5, 5}, 0, 1, 9, 1, 0, 1, 9, 1);
        y.mend(10, 3, 9);
        y.mend(30, 3, 9);
        Check.due("15: gone in the day, too", y.friends(30), -2);
        y.mend(10, 3, 5);
        Check.due("15: not if 1 does not wish it", y.friends(30), 0);
    }

    /** The set of none: 0. */
    private static void friendsNobodyHasToBe() {
        LeftByLast x = Texts.shop(new int[] {5}, 0, 1, 0, 1, 0, 1, 0, 1, 0, 1, 0, 1, 9, 1);
        x.mend(60, 3, 6);
        Check.due("15: nobody has to", x.friends(60), 0);
        x.mend(60, 3, 5);
        Check.due("15: nobody can help", x.friends(60), -2);
        x.mend(60, 3, 6);
        x.mend(6, 1, 4);
        Check.due("15: nor make it cheaper", x.friends(60), -2);
    }

    /** "kn: 10 times the CUSTOMER and the THING": each of 56. */
    private static void friendsOfEachPair() {
        for (int k = 0; k < 7; k++) {
            LeftByLast x = new LeftByLast();
            for (int i = 0; i < 8; i++) x.thing(5);
            for (int i = 0; i < 7; i++) x.customer(i == k ? 9 : 0, 1);
            for (int t = 0; t < 8; t++) {
                x.mend(10 * k + t, 3, 9);
                for (int i = 0; i < k; i++) x.mend(10 * i + (t + 1) % 8, 3, 1);
                Check.due("15: friends of " + k + " for thing " + t, x.friends(10 * k + t), k == 0 ? -2 : 1 << k - 1);
                Check.due("15: without a wish, of " + k, x.friends(10 * k + (t + 1) % 8), -2);
                x.mend(10 * k + t, 3, 0);
                for (int i = 0; i < k; i++) x.mend(10 * i + (t + 1) % 8, 3, 0);
            }
        }
    }

    /** "he stands at a place (0 .. how many CUSTOMERS there are)", with each THING. */
    private static void nephewAtEachPlace() {
        for (int at = 0; at < 7; at++) {
            for (int t = 0; t < 8; t++) {
                LeftByLast x = new LeftByLast();
                for (int i = 0; i < 8; i++) x.thing(7);
                for (int k = 0; k < 7; k++) x.customer(k == at ? 7 : 0, 1);
                // All show a thing that the one with coin does not wish.
                for (int k = 0; k < 7; k++) x.mend(10 * k + (t + 1) % 8, 3, 1);
                x.mend(10 * at + t, 3, 8);
                Check.due("16: at " + at + " with " + t, x.nephew(0), 10 * at + t);
                Check.due("16: at " + at + " with " + t + ", how much", x.nephew(1), 7);
            }
        }
    }

    /** "if more than without": as much is NOT. */
    private static void nephewIfMore() {
        LeftByLast x = Texts.shop(new int[] {7, 8}, 0, 1, 50, 1);
        Texts.wishes(x, 0, 9, 0);
        Texts.wishes(x, 1, 30, 0);
        Check.each("16: 7 are taken in without him", x::nephew, -2, 0, 1);
        x.mend(11, 3, 9);
        Check.due("16: 8 by thing 1", x.nephew(0), 11);
        Check.due("16: 8 by thing 1, how much", x.nephew(1), 8);
        x.mend(1, 0, 7);
        Check.each("16: 7 as well", x::nephew, -2, 0, 1);
        x.mend(0, 0, 0);
        x.mend(1, 0, 0);
        Check.each("16: nothing costs anything", x::nephew, -2, 0, 1);
        x.mend(1, 0, 1);
        Check.due("16: 1 is more than 0", x.nephew(1), 1);
    }

    /** "(of like ones the least place, ..)". */
    private static void nephewAtTheLeastPlace() {
        LeftByLast x = Texts.shop(new int[] {7, 7, 3}, 9, 1, 9, 1, 9, 1);
        for (int k = 0; k < 3; k++) Texts.wishes(x, k, 0, 8, 0);
        for (int k = 0; k < 3; k++) x.mend(k, 2, 4);
        Texts.law(x, "n=2");
        Check.due("16: any of three would buy thing 1: place 0", x.nephew(0), 1);
        x.mend(0, 1, 6);
        Check.due("16: any of two: place 1", x.nephew(0), 11);
        x.mend(1, 1, 6);
        Check.due("16: the last: place 2", x.nephew(0), 21);
        x.mend(2, 1, 6);
        Check.due("16: none", x.nephew(0), -2);
    }

    /** ".. then THING)": the least place ahead of the least thing. */
    private static void nephewWithTheLeastThing() {
        LeftByLast x = Texts.shop(new int[] {7, 7, 3, 7}, 9, 1, 9, 1);
        Texts.wishes(x, 0, 0, 0, 0, 9);
        Texts.wishes(x, 1, 9, 9, 0, 0);
        for (int k = 0; k < 2; k++) x.mend(k, 2, 4);
        Texts.law(x, "n=2");
        Check.due("16: place 0 and thing 3, not place 1 and thing 0", x.nephew(0), 3);
        x.mend(3, 3, 0);
        Check.due("16: of things 0 and 1 the least", x.nephew(0), 10);
        x.mend(10, 3, 7);
        Check.due("16: thing 1", x.nephew(0), 11);
        x.mend(0, 0, 8);
        x.mend(10, 3, 9);
        Check.due("16: more ahead of less", x.nephew(0), 10);
    }

    /** "takes up one told THING that is there then (else nothing; the next one has it LEFT ..)". */
    private static void nephewThingGoneThen() {
        // 0 buys thing 0 that was LEFT; 2 buys thing 1 at 10 from 1, or 3 at 19, if 2 is not shown it.
        LeftByLast x = Texts.shop(new int[] {20, 1, 0}, 20, 1, 10, 1, 50, 1, 50, 1);
        Texts.wishes(x, 0, 40, 0, 0);
        x.visit();
        x.evening();
        x.mend(0, 4, 9);
        x.mend(11, 3, 11);
        x.mend(20, 3, 95);
        x.mend(21, 3, 90);
        x.mend(31, 3, 90);
        Check.due("16: without him", x.day(1), 20 + 10);
        Check.due("16: thing 0, that is gone then, hides thing 1 from 2", x.nephew(0), 20);
        Check.due("16: it comes to 19, and thing 0 is not bought again", x.nephew(1), 20 + 19);
    }

    /** "others do not know him, their next ones are as without". */
    private static void nephewIsNotKnown() {
        LeftByLast x = Texts.shop(new int[] {9, 5, 9}, 0, 1, 50, 1, 50, 1);
        x.mend(0, 2, 1);
        x.mend(1, 2, 2);
        Texts.wishes(x, 1, 0, 9, 0);
        Texts.wishes(x, 2, 10, 3, 0);
        // 0 shows 1 what 1 wishes, 5; he at place 2 shows 2 thing 0, 9.
        Check.due("16: he ahead of 2", x.nephew(0), 20);
        Check.due("16: 5 and 9", x.nephew(1), 14);
        // He stands ahead of 1: the spiteful 1 still takes up what 2 wishes least, and 2 would buy thing 2 of it.
        x.mend(11, 3, 5);
        x.mend(22, 3, 10);
        x.mend(20, 3, 20);
        x.mend(21, 3, 20);
        Check.due("16: 2 buys thing 2 without him", x.buys(2), 2);
        Check.due("16: none brings more", x.nephew(0), -2);
    }

    /** At the place behind all he shows nobody anything: never more than without. */
    private static void nephewBehindAll() {
        LeftByLast x = Texts.shop(new int[] {7}, 9, 1);
        x.visit();
        x.mend(0, 3, 9);
        Check.due("16: 0 buys what is LEFT", x.day(1), 7);
        Check.each("16: nothing more", x::nephew, -2, 0, 1);
        x.visit();
        x.evening();
        x.visit();
        Check.each("16: nothing is there", x::nephew, -2, 0, 1);
    }

    /** "(of like ones the least)": 0, if nobody buys it for more. */
    private static void priceLeastOfLikeOnes() {
        LeftByLast x = Texts.shop(new int[] {50, 60}, 0, 1, 99, 1);
        Check.each("17: nobody wishes any", x::price, 0, 0, 1);
        x.mend(10, 3, 1);
        Check.due("17: it is bought for 0 alone", x.price(0), 0);
        Check.due("17: the other", x.price(1), 0);
        Check.due("6: the prices are as they were", x.of(0, 0) * 100 + x.of(1, 0), 5060);
        // Thing 1 is bought at 60 whatever thing 0 costs.
        x.mend(1, 3, 9);
        x.mend(11, 3, 99);
        Check.due("11: 60 are taken in", x.day(1), 60);
        Check.due("17: thing 0 may cost anything", x.price(0), 0);
    }

    /** "the PRICE (0 .. 99) by which TAKEN IN is most": one less than the WISH, or the COIN. */
    private static void priceFromOneToMost() {
        LeftByLast x = Texts.shop(new int[] {50}, 0, 1, 99, 1);
        for (int wish : new int[] {1, 2, 3, 50, 98, 99}) {
            x.mend(10, 3, wish);
            Check.due("17: wish " + wish, x.price(0), wish - 1);
        }
        for (int coin : new int[] {0, 1, 2, 50, 97, 98, 99}) {
            x.mend(1, 1, coin);
            Check.due("17: coin " + coin, x.price(0), Math.min(coin, 98));
        }
        x.mend(0, 4, 9);
        x.mend(1, 1, 99);
        Check.due("17: with a rise", x.price(0), 89);
        x.mend(10, 3, 9);
        Check.due("17: a rise to the wish: never bought", x.price(0), 0);
        x.mend(10, 3, 10);
        Check.due("17: a rise to one less than the wish", x.price(0), 0);
        x.mend(10, 3, 11);
        Check.due("17: a rise to two less than the wish", x.price(0), 1);
    }

    private static void priceOfWhatIsGone() {
        LeftByLast x = Texts.shop(new int[] {50, 40}, 0, 1, 99, 1);
        x.mend(10, 3, 99);
        x.visit();
        x.visit();
        Check.due("17: gone", x.price(0), 0);
        x.mend(11, 3, 30);
        Check.due("17: there", x.price(1), 29);
        Check.due("17: gone, whatever else is bought", x.price(0), 0);
    }

    /** Eight things, each dear to one alone. */
    private static void priceOfEach() {
        for (int t = 0; t < 8; t++) {
            LeftByLast x = Texts.shop(new int[] {90, 90, 90, 90, 90, 90, 90, 90}, 0, 1, 99, 1);
            x.mend(t, 3, 1);
            x.mend(10 + t, 3, 20 + t);
            for (int other = 0; other < 8; other++) {
                Check.due("17: of " + other + ", " + t + " is shown", x.price(other), other == t ? 19 + t : 0);
            }
        }
    }

    /** "the least COIN (0 .. 99) with which one buys something in a DAY; NOT." */
    private static void enoughBounds() {
        LeftByLast x = Texts.shop(new int[] {50, 60}, 0, 1, 99, 1);
        x.mend(10, 3, 99);
        for (int price : new int[] {0, 1, 50, 97, 98}) {
            x.mend(0, 0, price);
            Check.due("18: price " + price, x.enough(1), price);
        }
        x.mend(0, 0, 99);
        Check.due("18: price 99 is no less than any wish", x.enough(1), -2);
        x.mend(0, 0, 50);
        x.mend(10, 3, 51);
        Check.due("18: one less than the wish", x.enough(1), 50);
        x.mend(10, 3, 50);
        Check.due("18: as much as the wish", x.enough(1), -2);
        Check.due("18: the first sees nothing", x.enough(0), -2);
        x.mend(0, 4, 9);
        x.mend(10, 3, 99);
        Check.due("18: with a rise", x.enough(1), 59);
        // Of two that are shown the cheaper is enough, though it wishes the other one more.
        LeftByLast y = Texts.shop(new int[] {20, 10}, 0, 2, 99, 1);
        Texts.wishes(y, 1, 90, 11);
        Check.due("18: the cheaper one", y.enough(1), 10);
        y.mend(11, 3, 10);
        Check.due("18: it does not wish the cheaper one", y.enough(1), 20);
    }

    /** The COIN that it has does not matter, nor does it change. */
    private static void enoughWhateverItHas() {
        LeftByLast x = Texts.shop(new int[] {50}, 0, 1, 99, 1);
        x.mend(10, 3, 99);
        for (int coin : new int[] {0, 1, 49, 50, 51, 99}) {
            x.mend(1, 1, coin);
            Check.due("18: it has " + coin, x.enough(1), 50);
            Check.due("6: it still has " + coin, x.of(1, 10), coin);
            Check.due("10: it buys by what it has, " + coin, x.buys(1), coin < 50 ? -2 : 0);
        }
        // 0 itself buys it from LEFT if it has coin, and 1 sees nothing then.
        LeftByLast y = Texts.shop(new int[] {50}, 0, 1, 99, 1);
        y.mend(10, 3, 99);
        y.visit();
        y.mend(0, 3, 60);
        Check.due("18: 0 could buy at 50", y.enough(0), 50);
        Check.due("18: 1, as 0 has no coin", y.enough(1), 50);
        y.mend(0, 1, 50);
        Check.due("18: 1, as 0 has it", y.enough(1), -2);
    }

    /** "the least RISE by which SERVED is less than with 0; NOT." */
    private static void riseForBounds() {
        LeftByLast x = Texts.shop(new int[] {50}, 0, 1, 99, 1);
        for (int more = 1; more <= 12; more++) {
            x.mend(10, 3, 50 + more);
            Check.due("19: wish " + more + " more", x.riseFor(), more <= 9 ? more : -2);
        }
        for (int coin = 49; coin <= 60; coin++) {
            x.mend(1, 1, coin);
            Check.due("19: coin " + coin, x.riseFor(), coin >= 50 && coin <= 58 ? coin - 49 : -2);
        }
        x.mend(10, 3, 0);
        Check.due("19: nobody is served", x.riseFor(), -2);
        // At 99 a price stays: 98 is bought, 99 is not.
        x.mend(1, 1, 99);
        x.mend(10, 3, 99);
        x.mend(0, 0, 98);
        Check.due("19: 1 is too much", x.riseFor(), 1);
        x.mend(0, 0, 90);
        Check.due("19: 9 is too much", x.riseFor(), 9);
        x.mend(0, 0, 89);
        Check.due("19: 9 is not too much", x.riseFor(), -2);
    }

    /** RISE as it is does not matter, nor does it change. */
    private static void riseForWhateverItIs() {
        LeftByLast x = Texts.shop(new int[] {50}, 0, 1, 99, 1);
        x.mend(10, 3, 54);
        for (int rise = 0; rise <= 9; rise++) {
            x.mend(0, 4, rise);
            Check.due("19: rise " + rise, x.riseFor(), 4);
            Check.due("6: rise " + rise, x.of(0, 30), rise);
            Check.due("11: rise " + rise, x.day(0), rise < 4 ? 1 : 0);
        }
        // More are served by a rise: 1 does not buy it then, but 2 does.
        LeftByLast y = Texts.shop(new int[] {50, 40}, 0, 1, 50, 1, 0, 1, 99, 1);
        y.mend(0, 3, 9);
        y.mend(10, 3, 99);
        y.mend(20, 3, 9);
        y.mend(30, 3, 99);
        Check.due("19: as many by any", y.riseFor(), -2);
    }

    private static LeftByLast furnished() {
        LeftByLast x = Texts.shop(new int[] {12, 25, 8, 31}, 60, 1, 45, 2, 33, 1, 80, 2);
        Texts.wishes(x, 0, 20, 28, 9, 50);
        Texts.wishes(x, 1, 30, 26, 15, 33);
        Texts.wishes(x, 2, 14, 60, 8, 40);
        Texts.wishes(x, 3, 70, 27, 30, 90);
        for (int k = 0; k < 4; k++) x.mend(k, 2, k);
        x.mend(2, 2, 4);
        x.mend(0, 4, 3);
        Texts.law(x, "p*2-x;w");
        Texts.bytes(x, 0, -1, 3, -1, 3);
        x.visit();
        return x;
    }

    private static final int THOUGHTS = 25;

    private static int thought(LeftByLast x, int i) {
        switch (i) {
            case 0: return x.buys(0);
            case 1: return x.buys(1);
            case 2: return x.buys(3);
            case 3: return x.day(0);
            case 4: return x.day(1);
            case 5: return x.day(3);
            case 6: return x.order(1, -1);
            case 7: return x.order(2, 1);
            case 8: return x.change(0);
            case 9: return x.change(1);
            case 10: return x.change(2);
            case 11: return x.place(0);
            case 12: return x.place(3);
            case 13: return x.friends(33);
            case 14: return x.friends(11);
            case 15: return x.nephew(0);
            case 16: return x.nephew(1);
            case 17: return x.price(3);
            case 18: return x.price(0);
            case 19: return x.enough(3);
            case 20: return x.enough(0);
            case 21: return x.riseFor();
            case 22: return x.drawn(5, 9, -1);
            case 23: return x.judge(0);
            case 24: return x.whose(0);
            default: return x.visit();
        }
    }

    /** A question changes nothing, so each answers behind each other one, and a visit, too, as on a new object. */
    private static void eachThoughtBehindEachOther() {
        for (int second = 0; second <= THOUGHTS; second++) {
            int want = thought(furnished(), second);
            for (int first = 0; first < THOUGHTS; first++) {
                LeftByLast x = furnished();
                thought(x, first);
                Check.due("10-25: thought " + second + " behind " + first, thought(x, second), want);
            }
        }
    }
}
