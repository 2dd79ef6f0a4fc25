/** Short ways for tests to tell an object texts and rows. */
final class Texts {
    private Texts() {
    }

    static int law(LeftByLast x, String text) {
        for (int i = 0; i < text.length(); i++) x.feed(text.charAt(i));
        return x.law();
    }

    static void bytes(LeftByLast x, int shelf, int... values) {
        x.row(shelf, 0, values.length);
        for (int i = 0; i < values.length; i++) x.put(shelf, i, values[i]);
    }

    static String elements(LeftByLast x, int shelf, int n) {
        StringBuilder all = new StringBuilder();
        for (int i = 0; i < n; i++) all.append(i == 0 ? "" : " ").append(x.element(shelf, i));
        return all.toString();
    }

    /** Wishes of a customer for things 0, 1, .. */
    static void wishes(LeftByLast x, int customer, int... values) {
        for (int t = 0; t < values.length; t++) x.mend(10 * customer + t, 3, values[t]);
    }
}
