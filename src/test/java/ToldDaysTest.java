/** Promises 23 to 29: days by draws, told days, an image, changes undone and done again. */
public final class ToldDaysTest {
    public static void main(String[] args) {
        drawn();
        drawnByHand();
        judge();
        judgeRefused();
        whose();
        whoseRefused();
        image();
        imageAndThoseThatCame();
        undoAndRedo();
        undoAcrossDeeds();
        fortyChanges();
        Check.end("ToldDaysTest");
    }

    /** 0 shows thing 1 to 1, who buys it. */
    private static LeftByLast shop() {
        LeftByLast x = new LeftByLast();
        x.thing(10);
        x.thing(20);
        x.customer(0, 1);
        x.customer(50, 1);
        x.customer(0, 1);
        Texts.wishes(x, 0, 3, 5);
        Texts.wishes(x, 1, 30, 30);
        Texts.wishes(x, 2, 5, 3);
        return x;
    }

    private static void drawn() {
        LeftByLast x = shop();
        Check.due("23: n below", x.drawn(1, 0, -1), -1);
        Check.due("23: n above", x.drawn(1, 51, -1), -1);
        Check.due("23: no customer", x.drawn(1, 5, 3), -1);
        Check.due("23: customer below", x.drawn(1, 5, -2), -1);
        Check.due("23: 0 has no coin", x.drawn(1, 50, 0), 0);
        Check.due("23: SERVED is all that 1 buys", x.drawn(1, 50, -1), x.drawn(1, 50, 1));
        Check.due("23: the same seed", x.drawn(-7, 50, 1), x.drawn(-7, 50, 1));
        LeftByLast none = new LeftByLast();
        Check.due("23: nobody", none.drawn(9, 50, -1), 0);
        Check.due("23: nobody is 0", none.drawn(9, 50, 0), -1);
        LeftByLast one = new LeftByLast();
        one.thing(1);
        one.customer(9, 1);
        one.mend(0, 3, 9);
        one.visit();
        Check.due("23: one alone, from LEFT", one.drawn(Integer.MIN_VALUE, 50, 0), 50);
    }

    /** With two customers place 1 and place (z >>> 8) % 2 change: bit 8 of z tells, 0 that they do. */
    private static void drawnByHand() {
        LeftByLast x = new LeftByLast();
        x.thing(10);
        x.customer(0, 1);
        x.customer(50, 1);
        x.mend(10, 3, 30);
        int[] seeds = {0, 1, -1, 77, 123456789, Integer.MIN_VALUE, Integer.MAX_VALUE};
        for (int seed : seeds) {
            int behind = 0;
            int z = seed;
            for (int n = 1; n <= 50; n++) {
                z = z * 1103515245 + 12345;
                if ((z >> 8 & 1) == 1) behind++;
                Check.due("23: seed " + seed + ", days " + n, x.drawn(seed, n, 1), behind);
            }
        }
        x.swap(1);
        Check.due("23: from the row as it is", x.drawn(0, 1, 1) + x.drawn(0, 1, -1), drawnOnce(0) == 1 ? 0 : 2);
    }

    private static int drawnOnce(int seed) {
        return seed * 1103515245 + 12345 >> 8 & 1;
    }

    private static void judge() {
        LeftByLast x = shop();
        Texts.bytes(x, 0, -1, 1, -1);
        Check.due("24: so it was", x.judge(0), -2);
        Texts.bytes(x, 0, -1, 0, -1);
        Check.due("24: the place that was not so", x.judge(0), 1);
        Texts.bytes(x, 0, 0, 0, 0);
        Check.due("24: the first of them", x.judge(0), 0);
        Texts.bytes(x, 0, -1, 1, -2);
        Check.due("24: -2 is not nothing", x.judge(0), 2);
        Texts.bytes(x, 0, -1);
        Check.due("24: it ends before", x.judge(0), -2);
        Texts.bytes(x, 0);
        Check.due("24: it is empty", x.judge(0), -2);
        Texts.bytes(x, 0, -1, 1, -1, 5, 6);
        Check.due("24: what is behind", x.judge(0), -2);
        x.swap(2);
        // The row is 2 1 0: 1 buys thing 0.
        Texts.bytes(x, 0, -1, 0, -1);
        Check.due("24: by the row", x.judge(0), -2);
        x.swap(12);
        Texts.bytes(x, 0, -1, 0, -1);
        Check.due("24: by places, not by numbers", x.judge(0), 1);
    }

    private static void judgeRefused() {
        LeftByLast x = shop();
        Check.due("24: shelf below", x.judge(-1), -1);
        Check.due("24: shelf above", x.judge(6), -1);
        Check.due("24: nothing", x.judge(5), -11);
        x.row(0, 2, 3);
        Check.due("24: ints", x.judge(0), -12);
        x.row(0, 4, 3);
        Check.due("24: booleans", x.judge(0), -12);
        x.body(1);
        x.keep(0, 0);
        Check.due("24: a taking", x.judge(0), -12);
    }

    private static void whose() {
        LeftByLast x = shop();
        // 0 1 2, 2 0 1: thing 1. 2 1 0, 0 2 1: thing 0. 1 .. : nothing, but 1 takes up 0, nobody else has coin.
        Texts.bytes(x, 0, -1, 1, -1);
        Check.due("25: thing 1", x.whose(0), 2);
        Texts.bytes(x, 0, -1, 0, -1);
        Check.due("25: thing 0", x.whose(0), 2);
        Texts.bytes(x, 0, -1, -1, -1);
        Check.due("25: nothing", x.whose(0), 2);
        Texts.bytes(x, 0, -1, -2, -1);
        Check.due("25: never", x.whose(0), 0);
        Texts.bytes(x, 0, -1);
        Check.due("25: what lacks does not matter", x.whose(0), 6);
        Texts.bytes(x, 0);
        Check.due("25: all lack", x.whose(0), 6);
        Texts.bytes(x, 0, -1, 1, -1, 9);
        Check.due("25: what is behind", x.whose(0), 2);
        Texts.bytes(x, 0, 1);
        Check.due("25: 0 never buys", x.whose(0), 0);
        x.swap(2);
        Texts.bytes(x, 0, -1, 1, -1);
        Check.due("25: the row does not matter", x.whose(0), 2);
        LeftByLast none = new LeftByLast();
        none.row(0, 0, 2);
        Check.due("25: nobody: one row", none.whose(0), 1);
    }

    private static void whoseRefused() {
        LeftByLast x = shop();
        Check.due("25: shelf below", x.whose(-1), -1);
        Check.due("25: shelf above", x.whose(6), -1);
        Check.due("25: nothing", x.whose(0), -11);
        x.row(0, 3, 3);
        Check.due("25: longs", x.whose(0), -12);
        x.body(1);
        x.keep(0, 0);
        Check.due("25: a taking", x.whose(0), -12);
    }

    private static void image() {
        LeftByLast x = shop();
        Check.due("27: there is none", x.back(), -5);
        x.swap(12);
        x.swap(12);
        x.visit();
        x.mend(0, 4, 1);
        Check.due("26: how many", x.image(), 3);
        x.visit();
        x.visit();
        x.evening();
        x.swap(2);
        x.mend(0, 0, 77);
        x.mend(0, 3, 88);
        x.mend(0, 2, 3);
        x.mend(0, 4, 7);
        x.mend(0, 1, 66);
        int changes = x.count(5);
        Check.due("27: how many it knew", x.back(), 3);
        Check.due("27: price", x.of(0, 0), 10);
        Check.due("27: coin that was paid", x.of(1, 10), 50);
        Check.due("27: coin that was told", x.of(0, 10), 0);
        Check.due("27: there again", x.of(1, 1), 1);
        Check.due("27: LEFT", x.of(0, 31), 2);
        Check.due("27: TAKEN IN", x.of(0, 32), 0);
        Check.due("27: the row", x.of(0, 13), 0);
        Check.due("27: has been", x.of(0, 14), 1);
        Check.due("27: has not been", x.of(1, 14), 0);
        Check.due("27: wish is not laid back", x.of(0, 20), 88);
        Check.due("27: way is not laid back", x.of(0, 12), 3);
        Check.due("27: rise is not laid back", x.of(0, 30), 7);
        Check.due("27: changes stay", x.count(5), changes);
        Check.due("27: led stays", x.led(1, 0), 1);
        Check.due("27: goes on from there", x.visit(), 1);
        Check.due("27: once more", x.back(), 3);
        Check.due("27: LEFT once more", x.of(0, 31), 2);
        x.evening();
        x.image();
        x.visit();
        x.back();
        Check.due("26: a later image", x.of(0, 14), 0);
        imageOfWhatIsGone();
    }

    private static void imageOfWhatIsGone() {
        LeftByLast x = shop();
        x.visit();
        x.visit();
        x.image();
        x.mend(10, 3, 30);
        x.mend(1, 1, 40);
        x.evening();
        x.visit();
        x.visit();
        Check.due("27: both were bought", x.count(1), 0);
        Check.due("27: for 30", x.of(0, 32), 30);
        x.back();
        Check.due("27: 0 is there again", x.of(0, 1), 1);
        Check.due("27: 1 was gone then", x.of(1, 1), 0);
        Check.due("27: TAKEN IN then", x.of(0, 32), 20);
        Check.due("27: coin then", x.of(1, 10), 30);
        Check.due("27: two had been", x.evening(), 2);
    }

    private static void imageAndThoseThatCame() {
        LeftByLast x = shop();
        x.swap(2);
        Check.due("26: of three", x.image(), 3);
        x.thing(30);
        x.customer(70, 1);
        x.customer(80, 2);
        x.swap(4);
        x.mend(32, 3, 60);
        x.mend(3, 1, 71);
        x.mend(2, 0, 31);
        for (int i = 0; i < 5; i++) x.visit();
        int place = x.of(3, 13);
        Check.due("27: 3 stood at 3", place, 3);
        int there = x.of(2, 1);
        int coin = x.of(3, 10);
        Check.due("27: it knew three", x.back(), 3);
        Check.due("27: the row: 2 1 0", x.of(2, 13), 0);
        Check.due("27: 0 is third", x.of(0, 13), 2);
        Check.due("27: 3 behind", x.of(3, 13), 3);
        Check.due("27: 4 behind, by numbers", x.of(4, 13), 4);
        Check.due("27: who came has been", x.of(4, 14), 1);
        Check.due("27: those known have not", x.count(3), 2);
        Check.due("27: a thing that came, its price", x.of(2, 0), 31);
        Check.due("27: a thing that came", x.of(2, 1), there);
        Check.due("27: a coin of one who came", x.of(3, 10), coin);
        Check.due("27: how many there are", x.count(2), 5);
        for (int i = 0; i < 3; i++) x.visit();
        Check.due("27: those who came have been", x.visit(), -5);
    }

    private static void undoAndRedo() {
        LeftByLast x = shop();
        for (int i = 0; i < 6; i++) x.undo();
        Check.due("28: none", x.undo(), -5);
        Check.due("29: all six", x.redo(), 5);
        for (int i = 0; i < 5; i++) x.redo();
        Check.due("29: none", x.redo(), -5);
        x.mend(1, 0, 25);
        x.mend(1, 1, 55);
        x.mend(1, 2, 2);
        x.mend(11, 3, 35);
        x.mend(0, 4, 5);
        Check.due("28: eleven", x.count(5), 11);
        Check.due("28: rise", x.undo(), 10);
        Check.due("28: rise was", x.of(0, 30), 0);
        Check.due("28: wish", x.undo(), 9);
        Check.due("28: wish was", x.of(11, 20), 30);
        Check.due("28: way", x.undo(), 8);
        Check.due("28: way was", x.of(1, 12), 0);
        Check.due("28: coin", x.undo(), 7);
        Check.due("28: coin was", x.of(1, 10), 50);
        Check.due("28: price", x.undo(), 6);
        Check.due("28: price was", x.of(1, 0), 20);
        Check.due("29: price", x.redo(), 4);
        Check.due("29: price is", x.of(1, 0), 25);
        Check.due("29: coin", x.redo(), 3);
        Check.due("29: coin is", x.of(1, 10), 55);
        Check.due("29: the same number is no change", x.mend(1, 0, 25), 25);
        Check.due("29: what is refused is none", x.mend(1, 0, 100), -1);
        Check.due("29: way", x.redo(), 2);
        Check.due("29: another came behind", x.mend(0, 0, 11), 10);
        Check.due("29: none more", x.redo(), -5);
        Check.due("28: ten", x.count(5), 10);
        Check.due("28: of it", x.undo(), 9);
        Check.due("28: it is as it was", x.of(0, 0), 10);
    }

    private static void undoAcrossDeeds() {
        LeftByLast x = shop();
        x.mend(1, 1, 60);
        x.visit();
        x.visit();
        Check.due("28: paid", x.of(1, 10), 40);
        Check.due("28: a visit is no change", x.undo(), 6);
        Check.due("28: coin is laid as told", x.of(1, 10), 50);
        Check.due("29: and again", x.redo(), 0);
        Check.due("29: coin as told", x.of(1, 10), 60);
        x.mend(0, 4, 3);
        x.visit();
        Check.due("28: the price moved", x.of(0, 0), 13);
        x.mend(0, 0, 40);
        x.evening();
        x.visit();
        Check.due("28: it moved once more", x.of(0, 0), 43);
        x.undo();
        Check.due("28: price as it was then", x.of(0, 0), 13);
        x.evening();
        x.swap(1);
        Check.due("29: a mixed row is no change", x.redo(), 0);
        Check.due("29: price as told", x.of(0, 0), 40);
        Check.due("29: the row stays", x.of(0, 13), 1);
    }

    private static void fortyChanges() {
        LeftByLast x = new LeftByLast();
        x.thing(0);
        for (int i = 1; i <= 45; i++) x.mend(0, 0, i);
        Check.due("28: forty", x.count(5), 40);
        for (int i = 39; i >= 0; i--) Check.due("28: " + i, x.undo(), i);
        Check.due("28: the oldest are gone", x.undo(), -5);
        Check.due("28: as it was after five", x.of(0, 0), 5);
        for (int i = 39; i >= 0; i--) Check.due("29: " + i, x.redo(), i);
        Check.due("29: all are done", x.of(0, 0), 45);
        x.undo();
        x.mend(0, 0, 50);
        Check.due("28: forty again", x.count(5), 40);
        x.undo();
        Check.due("28: the one before", x.of(0, 0), 44);
        fortyOfAllKinds();
    }

    private static void fortyOfAllKinds() {
        LeftByLast x = new LeftByLast();
        for (int i = 0; i < 4; i++) {
            x.thing(0);
            x.customer(0, 1);
        }
        int[] asked = {0, 10, 12, 20, 30};
        int[][] told = new int[43][];
        for (int i = 0; i < told.length; i++) {
            int what = i % 5;
            int number = what == 4 ? 0 : what == 3 ? 11 * (i % 4) : i % 4;
            // Each is told four times at most, each time another number.
            int v = 1 + i / 10 % 4;
            if (what == 4) v = 1 + i / 5;
            int was = x.mend(number, what, v);
            Check.due("28: a change, " + i, was == v ? 1 : 0, 0);
            told[i] = new int[] {number, asked[what], was, v};
        }
        for (int i = 42; i >= 3; i--) {
            Check.due("28: undone, " + i, x.undo(), i - 3);
            Check.due("28: laid as it was, " + i, x.of(told[i][0], told[i][1]), told[i][2]);
        }
        Check.due("28: three are not kept", x.undo(), -5);
        for (int i = 3; i <= 42; i++) {
            Check.due("29: done again, " + i, x.redo(), 42 - i);
            Check.due("29: laid as told, " + i, x.of(told[i][0], told[i][1]), told[i][3]);
        }
    }
}
