/** Short ways for tests to furnish an object and to tell it texts and rows. */
final class Texts {
    private Texts() {
    }

    /** Prices, then coin and hands by customers. */
    static LeftByLast shop(int[] prices, int... coinsAndHands) {
        LeftByLast x = new LeftByLast();
        for (int price : prices) x.thing(price);
        for (int i = 0; i < coinsAndHands.length; i += 2) x.customer(coinsAndHands[i], coinsAndHands[i + 1]);
        return x;
    }

    static int law(LeftByLast x, String text) {
        for (int i = 0; i < text.length(); i++) x.feed(text.charAt(i));
        return x.law();
    }

    static void bytes(LeftByLast x, int shelf, int... values) {
        x.row(shelf, 0, values.length);
        for (int i = 0; i < values.length; i++) x.put(shelf, i, values[i]);
    }

    static String elements(LeftByLast x, int shelf, int n) {
        StringBuilder all = new StringBuilder();
        for (int i = 0; i < n; i++) all.append(i == 0 ? "" : " ").append(x.element(shelf, i));
        return all.toString();
    }

    /** Wishes of a customer for things 0, 1, .. */
    static void wishes(LeftByLast x, int customer, int... values) {
        for (int t = 0; t < values.length; t++) x.mend(10 * customer + t, 3, values[t]);
    }

    /** The row becomes as told, by changes of places. */
    static void layRow(LeftByLast x, int... row) {
        for (int i = 0; i < row.length; i++) {
            int at = x.of(row[i], 13);
            if (at != i) x.swap(10 * i + at);
        }
    }

    static String rowOf(LeftByLast x) {
        StringBuilder all = new StringBuilder();
        for (int i = 0; i < x.count(2); i++) {
            for (int k = 0; k < x.count(2); k++) if (x.of(k, 13) == i) all.append(k);
        }
        return all.toString();
    }
}
