/** Promises 1 to 7: a new object, things, customers, what is told of them, the row. */
public final class ThingsTest {
    public static void main(String[] args) {
        newObject();
        thing();
        customer();
        customersFromRow();
        customersThatEnd();
        customersRefused();
        customersFromBelow();
        mend();
        mendRefused();
        of();
        wishesApart();
        swap();
        Check.end("ThingsTest");
    }

    private static void newObject() {
        LeftByLast x = new LeftByLast();
        for (int what = 0; what <= 7; what++) Check.due("1: count(" + what + ")", x.count(what), 0);
        Check.due("1: of(0, 30) RISE", x.of(0, 30), 0);
        Check.due("1: of(0, 31) LEFT", x.of(0, 31), 0);
        Check.due("1: of(0, 32) TAKEN IN", x.of(0, 32), 0);
        Check.due("1: of(0, 0)", x.of(0, 0), -1);
        Check.due("1: of(0, 10)", x.of(0, 10), -1);
        Check.due("1: visit", x.visit(), -5);
        Check.due("1: back", x.back(), -5);
        Check.due("1: undo", x.undo(), -5);
        Check.due("1: redo", x.redo(), -5);
        Check.due("1: element", x.element(0, 0), Long.MIN_VALUE);
        Check.due("1: taken", x.taken(5, 0), -11);
        x.thing(7);
        Check.due("1: objects apart", new LeftByLast().count(0), 0);
    }

    private static void thing() {
        LeftByLast x = new LeftByLast();
        Check.due("2: below", x.thing(-1), -1);
        Check.due("2: above", x.thing(100), -1);
        Check.due("2: least", x.thing(0), 0);
        Check.due("2: most", x.thing(99), 1);
        Check.due("2: its price", x.of(1, 0), 99);
        Check.due("2: there", x.of(1, 1), 1);
        for (int t = 2; t < 8; t++) Check.due("2: thing " + t, x.thing(t), t);
        Check.due("2: ninth", x.thing(5), -3);
        Check.due("2: BAD ahead of FULL", x.thing(100), -1);
        Check.due("2: how many", x.count(0), 8);
    }

    private static void customer() {
        LeftByLast x = new LeftByLast();
        Check.due("3: coin below", x.customer(-1, 1), -1);
        Check.due("3: coin above", x.customer(100, 1), -1);
        Check.due("3: no hands", x.customer(5, 0), -1);
        Check.due("3: three hands", x.customer(5, 3), -1);
        Check.due("3: first", x.customer(0, 1), 0);
        Check.due("3: second", x.customer(99, 2), 1);
        Check.due("3: coin", x.of(1, 10), 99);
        Check.due("3: hands", x.of(1, 11), 2);
        Check.due("3: way", x.of(1, 12), 0);
        Check.due("3: last in the row", x.of(1, 13), 1);
        x.swap(1);
        Check.due("3: third", x.customer(4, 1), 2);
        Check.due("3: third is last", x.of(2, 13), 2);
        for (int k = 3; k < 7; k++) Check.due("3: customer " + k, x.customer(k, 1), k);
        Check.due("3: eighth", x.customer(1, 1), -3);
        Check.due("3: BAD ahead of FULL", x.customer(1, 3), -1);
    }

    private static void customersFromRow() {
        LeftByLast x = new LeftByLast();
        Texts.bytes(x, 2, 9, 99, 2, 4, 0, 1, 0, 50, 1, 3);
        Check.due("4: two from place 1", x.customers(2, 1, 2), 2);
        Check.due("4: how many", x.count(2), 2);
        Check.due("4: coin", x.of(0, 10), 99);
        Check.due("4: hands", x.of(0, 11), 2);
        Check.due("4: way", x.of(0, 12), 4);
        Check.due("4: second's coin", x.of(1, 10), 0);
        Check.due("4: second's place", x.of(1, 13), 1);
        Check.due("4: a way that came is no change", x.count(5), 0);
        Check.due("4: one more", x.customers(2, 7, 1), 1);
        Check.due("4: its way", x.of(2, 12), 3);
    }

    private static void customersThatEnd() {
        LeftByLast x = new LeftByLast();
        Check.due("4: the row is missing", x.customers(0, 0, 3), 0);
        Texts.bytes(x, 0, 10, 1, 0, 20, 2);
        Check.due("4: ends within a three", x.customers(0, 0, 7), 1);
        Check.due("4: begins behind", x.customers(0, 5, 1), 0);
        Check.due("4: begins far behind", x.customers(0, Integer.MAX_VALUE, 1), 0);
        Texts.bytes(x, 0, 10, 1, 0, 20, 3, 0, 30, 1, 0);
        Check.due("4: hands are not so", x.customers(0, 0, 3), 1);
        Texts.bytes(x, 0, 10, 1, 5, 20, 1, 0);
        Check.due("4: way is not so", x.customers(0, 0, 2), 0);
        Texts.bytes(x, 0, 100, 1, 0);
        Check.due("4: coin is not so", x.customers(0, 0, 1), 0);
        Texts.bytes(x, 0, 5, 1, -1);
        Check.due("4: way below", x.customers(0, 0, 1), 0);
        Check.due("4: two came", x.count(2), 2);
        x.row(1, 0, 60);
        for (int i = 0; i < 60; i++) x.put(1, i, 1);
        Check.due("4: full", x.customers(1, 0, 7), 5);
        Check.due("4: full from the first", x.customers(1, 0, 7), 0);
        Check.due("4: seven", x.count(2), 7);
    }

    private static void customersRefused() {
        LeftByLast x = new LeftByLast();
        x.body(0);
        x.keep(3, 0);
        x.row(4, 1, 9);
        Check.due("4: shelf below", x.customers(-1, 0, 1), -1);
        Check.due("4: shelf above", x.customers(6, 0, 1), -1);
        Check.due("4: none wanted", x.customers(0, 0, 0), -1);
        Check.due("4: eight wanted", x.customers(0, 0, 8), -1);
        Check.due("4: a taking", x.customers(3, 0, 1), -12);
        Check.due("4: shorts", x.customers(4, 0, 1), -12);
        Check.due("4: BAD ahead of -12", x.customers(4, 0, 8), -1);
        Check.due("4: a taking, place below", x.customers(3, -1, 1), -12);
        Check.due("4: shorts, place below", x.customers(4, -1, 1), -12);
        Check.due("4: shorts, place behind", x.customers(4, 10, 1), -12);
        Check.due("4: shelf below, place below", x.customers(-1, -1, 1), -1);
        Check.due("4: none wanted, place below", x.customers(0, -1, 0), -1);
        Check.due("4: nobody came", x.count(2), 0);
    }

    private static void customersFromBelow() {
        LeftByLast x = new LeftByLast();
        Texts.bytes(x, 0, 10, 1, 0, 20, 2, 0, 30, 1, 0);
        x.row(1, 0, 0);
        x.keep(2, -1);
        for (int i : new int[] {Integer.MIN_VALUE, -60, -4, -3, -2, -1}) {
            for (int n : new int[] {1, 2, 7}) {
                Check.due("4: a row from " + i, x.customers(0, i, n), 0);
                Check.due("4: a row of no elements from " + i, x.customers(1, i, n), 0);
                Check.due("4: a row that is missing from " + i, x.customers(5, i, n), 0);
                Check.due("4: a shelf that was emptied from " + i, x.customers(2, i, n), 0);
            }
        }
        Check.due("4: nobody came from below", x.count(2), 0);
        Check.due("4: from 0 they come", x.customers(0, 0, 7), 3);
    }

    private static LeftByLast small() {
        LeftByLast x = new LeftByLast();
        x.thing(10);
        x.thing(20);
        x.customer(30, 1);
        x.customer(40, 2);
        return x;
    }

    private static void mend() {
        LeftByLast x = small();
        Check.due("5: price was", x.mend(1, 0, 99), 20);
        Check.due("5: price is", x.of(1, 0), 99);
        Check.due("5: coin was", x.mend(1, 1, 0), 40);
        Check.due("5: coin is", x.of(1, 10), 0);
        Check.due("5: way was", x.mend(0, 2, 4), 0);
        Check.due("5: way is", x.of(0, 12), 4);
        Check.due("5: wish was", x.mend(11, 3, 99), 0);
        Check.due("5: wish is", x.of(11, 20), 99);
        Check.due("5: another wish", x.of(1, 20), 0);
        Check.due("5: one more", x.of(10, 20), 0);
        Check.due("5: rise was", x.mend(0, 4, 9), 0);
        Check.due("5: rise is", x.of(0, 30), 9);
        Check.due("5: the same once more", x.mend(0, 4, 9), 9);
        Check.due("5: changes", x.count(5), 5);
        Check.due("5: the other price", x.of(0, 0), 10);
    }

    private static void mendRefused() {
        LeftByLast x = small();
        Check.due("5: no thing", x.mend(2, 0, 1), -1);
        Check.due("5: thing below", x.mend(-1, 0, 1), -1);
        Check.due("5: price above", x.mend(0, 0, 100), -1);
        Check.due("5: price below", x.mend(0, 0, -1), -1);
        Check.due("5: no customer", x.mend(2, 1, 1), -1);
        Check.due("5: coin above", x.mend(0, 1, 100), -1);
        Check.due("5: coin below", x.mend(0, 1, -1), -1);
        Check.due("5: way above", x.mend(0, 2, 5), -1);
        Check.due("5: no such way's customer", x.mend(2, 2, 1), -1);
        Check.due("5: pair without thing", x.mend(12, 3, 1), -1);
        Check.due("5: pair without customer", x.mend(20, 3, 1), -1);
        Check.due("5: pair below", x.mend(-1, 3, 1), -1);
        Check.due("5: wish above", x.mend(0, 3, 100), -1);
        Check.due("5: rise of 1", x.mend(1, 4, 1), -1);
        Check.due("5: rise above", x.mend(0, 4, 10), -1);
        Check.due("5: what above", x.mend(0, 5, 1), -1);
        Check.due("5: what below", x.mend(0, -1, 1), -1);
        Check.due("5: nothing changed", x.count(5), 0);
        Check.due("5: price as it was", x.of(0, 0), 10);
    }

    private static void of() {
        LeftByLast x = small();
        x.swap(1);
        x.mend(10, 3, 50);
        Check.due("6: visit of 1", x.visit(), -2);
        Check.due("6: there", x.of(0, 1), 1);
        Check.due("6: place", x.of(0, 13), 1);
        Check.due("6: has been", x.of(1, 14), 1);
        Check.due("6: has not been", x.of(0, 14), 0);
        Check.due("6: LEFT", x.of(0, 31), 3);
        x.mend(1, 3, 26);
        Check.due("6: visit of 0", x.visit(), 1);
        Check.due("6: gone", x.of(1, 1), 0);
        Check.due("6: price of what is gone", x.of(1, 0), 20);
        Check.due("6: LEFT none", x.of(0, 31), 0);
        Check.due("6: TAKEN IN", x.of(0, 32), 20);
        Check.due("6: coin less", x.of(0, 10), 10);
        int[][] bad = {{2, 0}, {2, 1}, {-1, 0}, {2, 10}, {-1, 10}, {2, 14}, {12, 20}, {20, 20}, {-1, 20}, {1, 30},
            {1, 31}, {1, 32}, {0, 2}, {0, 9}, {0, 15}, {0, 19}, {0, 21}, {0, 29}, {0, 33}, {0, -1}};
        for (int[] one : bad) Check.due("6: of(" + one[0] + ", " + one[1] + ")", x.of(one[0], one[1]), -1);
    }

    private static void wishesApart() {
        LeftByLast x = new LeftByLast();
        for (int t = 0; t < 8; t++) x.thing(t);
        for (int k = 0; k < 7; k++) x.customer(k, 1);
        for (int kn = 0; kn < 68; kn++) x.mend(kn, 3, kn);
        for (int kn = 0; kn < 68; kn++) Check.due("6: wish " + kn, x.of(kn, 20), kn % 10 < 8 ? kn : -1);
        Check.due("6: no thing 8", x.of(68, 20), -1);
        Check.due("6: no customer 7", x.of(70, 20), -1);
    }

    private static void swap() {
        LeftByLast x = small();
        x.customer(50, 1);
        Check.due("7: places 0 and 2", x.swap(2), 2);
        Check.due("7: place of 0", x.of(0, 13), 2);
        Check.due("7: place of 2", x.of(2, 13), 0);
        Check.due("7: places 2 and 1", x.swap(21), 1);
        Check.due("7: one and the same", x.swap(11), -1);
        Check.due("7: no such place", x.swap(3), -1);
        Check.due("7: no such place, first", x.swap(30), -1);
        Check.due("7: below", x.swap(-1), -1);
        Check.due("7: no change", x.count(5), 0);
        x.visit();
        Check.due("7: somebody has been", x.swap(1), -5);
        Check.due("7: BAD ahead of STATE", x.swap(0), -1);
        x.evening();
        Check.due("7: after the evening", x.swap(1), 0);
    }
}
