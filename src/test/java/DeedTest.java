/** Promises 20 to 22: visits in deed, the evening, each one led. */
public final class DeedTest {
    public static void main(String[] args) {
        visit();
        visitKnowsTheNextOne();
        evening();
        led();
        lateComers();
        Check.end("DeedTest");
    }

    private static LeftByLast shop() {
        LeftByLast x = new LeftByLast();
        x.thing(10);
        x.thing(20);
        x.customer(5, 2);
        x.customer(35, 1);
        x.customer(50, 1);
        Texts.wishes(x, 0, 1, 2);
        Texts.wishes(x, 1, 12, 40);
        Texts.wishes(x, 2, 30, 0);
        return x;
    }

    private static void visit() {
        LeftByLast x = shop();
        Check.due("20: 0 buys nothing", x.visit(), -2);
        Check.due("20: LEFT", x.of(0, 31), 3);
        Check.due("20: 1 buys 1", x.visit(), 1);
        Check.due("20: LEFT none", x.of(0, 31), 0);
        Check.due("20: gone", x.of(1, 1), 0);
        Check.due("20: coin", x.of(1, 10), 15);
        Check.due("20: TAKEN IN", x.of(0, 32), 20);
        Check.due("20: 2 finds nothing", x.visit(), -2);
        Check.due("20: there is one to take up", x.of(0, 31), 1);
        Check.due("20: all have been", x.visit(), -5);
        Check.due("20: nothing changed by that", x.of(0, 31), 1);
        x.evening();
        x.swap(1);
        Check.due("20: from the first of the row on", x.visit(), 0);
        Check.due("20: TAKEN IN, together", x.of(0, 32), 30);
        Check.due("20: coin, less again", x.of(1, 10), 5);
        Check.due("20: it was 1", x.of(1, 14), 1);
        Check.due("20: not 0", x.of(0, 14), 0);
    }

    private static void visitKnowsTheNextOne() {
        LeftByLast x = shop();
        x.mend(0, 2, 1);
        x.mend(2, 2, 1);
        x.customer(0, 1);
        x.swap(12);
        x.swap(23);
        // The row is 0 2 3 1.
        x.mend(20, 3, 0);
        x.mend(21, 3, 9);
        x.mend(30, 3, 7);
        x.visit();
        Check.due("20: kind to 2", x.led(0, 1), 3);
        x.mend(0, 1, 5);
        x.visit();
        Check.due("20: kind to 3, not to 1", x.led(2, 1), 1);
    }

    private static void evening() {
        LeftByLast x = shop();
        Check.due("21: nobody has been", x.evening(), 0);
        x.visit();
        x.visit();
        Check.due("21: have been", x.count(3), 2);
        Check.due("21: evening", x.evening(), 2);
        Check.due("21: nobody, then", x.count(3), 0);
        Check.due("21: who has been", x.of(0, 14), 0);
        Check.due("21: gone stays gone", x.count(1), 1);
        x.visit();
        Check.due("21: begins anew with 0", x.of(0, 14), 1);
        Check.due("21: one evening more", x.evening(), 1);
        Check.due("21: LEFT stays", x.of(0, 31), 1);
        Check.due("21: TAKEN IN stays", x.of(0, 32), 20);
    }

    private static void led() {
        LeftByLast x = shop();
        Check.due("22: no visit yet", x.led(0, 0), -5);
        Check.due("22: BAD ahead of STATE", x.led(0, 2), -1);
        Check.due("22: below", x.led(0, -1), -1);
        Check.due("22: no customer", x.led(3, 0), -1);
        Check.due("22: customer below", x.led(-1, 0), -1);
        x.visit();
        Check.due("22: bought nothing", x.led(0, 0), -2);
        Check.due("22: took up both", x.led(0, 1), 3);
        Check.due("22: 1 not yet", x.led(1, 1), -5);
        x.visit();
        Check.due("22: bought", x.led(1, 0), 1);
        Check.due("22: who bought took up nothing", x.led(1, 1), 0);
        x.evening();
        Check.due("22: still known", x.led(1, 0), 1);
        x.visit();
        x.visit();
        Check.due("22: the latest, bought", x.led(1, 0), 0);
        x.evening();
        x.visit();
        Check.due("22: nothing is there", x.led(0, 1), 0);
        x.visit();
        Check.due("22: the latest, nothing", x.led(1, 0), -2);
    }

    private static void lateComers() {
        LeftByLast x = shop();
        for (int i = 0; i < 3; i++) x.visit();
        x.customer(60, 1);
        x.mend(30, 3, 60);
        Check.due("20: who came late buys", x.visit(), 0);
        Check.due("20: all again", x.visit(), -5);
    }
}
