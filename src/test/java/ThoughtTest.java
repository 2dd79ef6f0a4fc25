/** Promises 10 to 19: a day in thought, and what is asked of it. */
public final class ThoughtTest {
    public static void main(String[] args) {
        buys();
        choosesAmongLeft();
        waysOfTakingUp();
        waysOfTheLastOne();
        day();
        pricesMove();
        thoughtChangesNothing();
        order();
        change();
        place();
        friends();
        friendsRefused();
        nephew();
        nephewAtARise();
        price();
        enough();
        riseFor();
        Check.end("ThoughtTest");
    }

    /** 0 shows a thing of 20 to 1, who buys it; 2 sees nothing then. */
    private static LeftByLast threeInARow() {
        LeftByLast x = Texts.shop(new int[] {10, 20, 30}, 99, 1, 30, 1, 99, 1);
        Texts.wishes(x, 0, 1, 5, 2);
        Texts.wishes(x, 1, 0, 26, 0);
        Texts.wishes(x, 2, 40, 40, 40);
        return x;
    }

    private static void buys() {
        LeftByLast x = threeInARow();
        Check.due("10: the first one, with nothing left", x.buys(0), -2);
        Check.due("10: what 0 left", x.buys(1), 1);
        Check.due("10: who bought leaves nothing", x.buys(2), -2);
        Check.due("10: below", x.buys(-1), -1);
        Check.due("10: above", x.buys(3), -1);
        x.mend(1, 0, 26);
        Check.due("10: price like the wish", x.buys(1), -2);
        x.mend(1, 0, 25);
        x.mend(1, 1, 25);
        Check.due("10: price like the coin", x.buys(1), 1);
        x.mend(1, 1, 24);
        Check.due("10: price above the coin", x.buys(1), -2);
        Check.due("10: 2 sees what 1 took up", x.buys(2), 1);
        x.swap(2);
        Check.due("10: by the row", x.buys(2), -2);
    }

    private static void choosesAmongLeft() {
        LeftByLast x = Texts.shop(new int[] {10, 20, 30, 5}, 0, 2, 99, 1);
        Texts.wishes(x, 0, 0, 7, 9, 8);
        Texts.wishes(x, 1, 99, 50, 60, 35);
        Check.due("10: 2 and 3 are left, both worth 30", x.buys(1), 2);
        x.mend(13, 3, 36);
        Check.due("10: 3 is worth more", x.buys(1), 3);
        x.mend(0, 2, 3);
        Check.due("10: 1 and 2 are left, both worth 30", x.buys(1), 1);
        x.mend(1, 1, 29);
        x.mend(2, 0, 29);
        Check.due("10: 2 is worth 31", x.buys(1), 2);
    }

    private static void waysOfTakingUp() {
        int[] one = {1 << 2, 1 << 0, 1 << 3, 1 << 1};
        int[] two = {12, 3, 12, 6};
        for (int way = 0; way < 4; way++) {
            for (int hands = 1; hands <= 2; hands++) {
                LeftByLast y = Texts.shop(new int[] {10, 40, 30, 20}, 0, hands, 0, 1);
                Texts.wishes(y, 0, 3, 5, 9, 9);
                Texts.wishes(y, 1, 7, 7, 2, 1);
                y.mend(0, 2, way);
                y.visit();
                Check.due("11: way " + way + ", hands " + hands, y.led(0, 1), hands == 1 ? one[way] : two[way]);
            }
        }
        LeftByLast y = Texts.shop(new int[] {10}, 0, 2);
        Check.due("11: fewer things than hands", y.day(3), 1);
        Check.due("11: no things", Texts.shop(new int[0], 5, 2).day(3), 0);
    }

    private static void waysOfTheLastOne() {
        int[] want = {4, 4, 4, 2, 4};
        for (int way = 0; way <= 4; way++) {
            LeftByLast x = Texts.shop(new int[] {10, 40, 30, 20}, 0, 1);
            Texts.wishes(x, 0, 3, 5, 9, 9);
            x.mend(0, 2, way);
            Check.due("11: the last one's way " + way, x.day(3), want[way]);
        }
    }

    private static void day() {
        LeftByLast x = threeInARow();
        Check.due("11: SERVED", x.day(0), 1);
        Check.due("11: TAKEN IN", x.day(1), 20);
        Check.due("11: JOY", x.day(2), 6);
        Check.due("11: LEFT", x.day(3), 1);
        Check.due("11: below", x.day(-1), -1);
        Check.due("11: above", x.day(4), -1);
        x.mend(22, 3, 41);
        Check.due("11: LEFT by another wish", x.day(3), 4);
        x.visit();
        Check.due("11: LEFT as it is: 0 does not wish it", x.buys(0), -2);
        x.mend(1, 3, 99);
        Check.due("11: LEFT as it is: 0 buys it", x.buys(0), 1);
        Check.due("11: who has been is in the day, too", x.day(2), 79 + 30);
        LeftByLast none = new LeftByLast();
        for (int what = 0; what <= 3; what++) Check.due("11: none", none.day(what), 0);
    }

    private static void pricesMove() {
        LeftByLast x = threeInARow();
        x.mend(0, 4, 5);
        Check.due("11: 20 and a rise of 5", x.day(1), 25);
        Check.due("11: less joy", x.day(2), 1);
        x.mend(0, 4, 6);
        Check.due("11: as much as the wish", x.buys(1), -2);
        Check.due("11: 2 buys what 1 took up", x.buys(2), 1);
        Check.due("11: two rises", x.day(1), 32);
        LeftByLast y = Texts.shop(new int[] {97}, 0, 1, 99, 1);
        y.mend(0, 4, 9);
        y.mend(10, 3, 99);
        Check.due("11: 99 at most", y.buys(1), -2);
        y.visit();
        Check.due("11: the price is 99", y.of(0, 0), 99);
        LeftByLast z = Texts.shop(new int[] {10, 10}, 0, 1, 0, 1);
        z.mend(0, 4, 3);
        z.visit();
        z.visit();
        Check.due("11: what is left rises", z.of(0, 0), 16);
        Check.due("11: the other one does not", z.of(1, 0), 10);
    }

    private static void thoughtChangesNothing() {
        LeftByLast x = threeInARow();
        x.mend(0, 4, 2);
        x.order(0, -1);
        x.change(0);
        x.friends(10);
        x.nephew(0);
        x.price(1);
        x.enough(1);
        x.riseFor();
        x.drawn(1, 5, -1);
        Check.due("11: price", x.of(1, 0), 20);
        Check.due("11: coin", x.of(1, 10), 30);
        Check.due("11: rise", x.of(0, 30), 2);
        Check.due("11: LEFT", x.of(0, 31), 0);
        Check.due("11: TAKEN IN", x.of(0, 32), 0);
        Check.due("11: place", x.of(2, 13), 2);
        Check.due("11: been", x.count(3), 0);
        Check.due("11: led", x.led(0, 0), -5);
    }

    private static void order() {
        LeftByLast x = threeInARow();
        // 0 1 2: 1 buys 1 (6). 2 0 1: nothing. 0 2 1: 2 buys 1 (20). 1 0 2: 1 takes up 1, 2 buys 1 from 0 (20).
        // 1 2 0: 2 buys 1 (20). 2 1 0: nothing.
        Check.due("12: most SERVED", x.order(0, -1), 1);
        Check.due("12: first of like ones, 0th", x.order(0, 0), 0);
        Check.due("12: first of like ones, 1st", x.order(0, 1), 1);
        Check.due("12: first of like ones, 2nd", x.order(0, 2), 2);
        Check.due("12: most TAKEN IN", x.order(1, -1), 20);
        Check.due("12: most JOY", x.order(2, -1), 20);
        Check.due("12: by JOY, 0th", x.order(2, 0), 0);
        Check.due("12: by JOY, 1st", x.order(2, 1), 2);
        Check.due("12: by JOY, 2nd", x.order(2, 2), 1);
        x.swap(2);
        Check.due("12: the row does not matter", x.order(2, 1), 2);
        Check.due("12: measure above", x.order(3, -1), -1);
        Check.due("12: measure below", x.order(-1, -1), -1);
        Check.due("12: k above", x.order(0, 3), -1);
        Check.due("12: k below", x.order(0, -2), -1);
        x.mend(1, 1, 0);
        x.mend(2, 1, 0);
        Check.due("12: nothing is sold", x.order(2, -1), 0);
        for (int k = 0; k < 3; k++) Check.due("12: the first of all, " + k, x.order(2, k), k);
        LeftByLast none = new LeftByLast();
        Check.due("12: nobody", none.order(2, -1), 0);
        Check.due("12: nobody is 0th", none.order(2, 0), -1);
        LeftByLast one = Texts.shop(new int[] {4}, 9, 1);
        Check.due("12: one alone", one.order(2, 0), 0);
    }

    private static void change() {
        LeftByLast x = threeInARow();
        Check.due("13: SERVED is no more by any", x.change(0), -2);
        Check.due("13: JOY: 0 and 1 is the first of like ones", x.change(2), 1);
        x.swap(1);
        Check.due("13: no better than 1 0 2", x.change(2), -2);
        x.swap(2);
        Check.due("13: 2 0 1: by 0 1 2 6, by 1 0 2 20, by 0 2 1 20", x.change(2), 1);
        Check.due("13: below", x.change(-1), -1);
        Check.due("13: above", x.change(3), -1);
        Check.due("13: nobody", new LeftByLast().change(0), -2);
        // 0 shows it if it is the first, and buys it behind 1; 2 wishes it most.
        LeftByLast y = Texts.shop(new int[] {10}, 50, 1, 50, 1, 50, 1);
        y.mend(0, 3, 11);
        y.mend(10, 3, 12);
        y.mend(20, 3, 40);
        Check.due("13: places 1 and 2", y.change(2), 12);
        Check.due("13: SERVED and TAKEN IN are as they were", y.change(0) + y.change(1), -4);
    }

    private static void place() {
        LeftByLast x = threeInARow();
        Check.due("14: the first one", x.place(0), 0);
        Check.due("14: 1 would buy nothing ahead of 0", x.place(1), -6);
        Check.due("14: 2 would buy 1 behind 0", x.place(2), 20);
        Check.due("14: below", x.place(-1), -2000000000);
        Check.due("14: above", x.place(3), -2000000000);
        x.swap(1);
        Check.due("14: by the row", x.place(1), 0);
        x.mend(0, 4, 3);
        // 1 0 2: 1 and 0 both take up thing 1, 2 pays 26; 1 2 0: 2 pays 23.
        Check.due("14: prices that moved", x.place(2), 3);
    }

    private static void friends() {
        LeftByLast x = threeInARow();
        Check.due("15: 1 buys it by itself", x.friends(11), 0);
        x.mend(10, 3, 30);
        Check.due("15: 0 has to show it", x.friends(10), 1);
        Check.due("15: 2 buys 0 by 1, who would buy 1 else", x.friends(20), -2);
        x.mend(1, 1, 9);
        x.mend(10, 3, 0);
        Check.due("15: 1 buys nothing and shows it", x.friends(20), 2);
        Check.due("15: nobody is ahead", x.friends(1), -2);
        x.swap(1);
        Check.due("15: 2 by 0, who is just ahead now", x.friends(22), 1);
        // 0 has coin for nothing here, so any of both could show it; the least bits are told.
        LeftByLast y = Texts.shop(new int[] {9, 9}, 0, 1, 0, 1, 50, 1);
        y.mend(21, 3, 20);
        Check.due("15: only the one just ahead", y.friends(21), 2);
        y.mend(1, 2, 1);
        Check.due("15: 1 is kind, nobody has to", y.friends(21), 0);
        two();
    }

    /** 1 would buy what 0 shows by its own wish; so 0 has to show the wished one, and 1, too. */
    private static void two() {
        LeftByLast x = Texts.shop(new int[] {5, 6}, 0, 1, 40, 1, 40, 1);
        Texts.wishes(x, 0, 9, 0);
        Texts.wishes(x, 1, 20, 0);
        Texts.wishes(x, 2, 0, 30);
        Check.due("15: 1 buys what 0 leaves", x.buys(1), 0);
        Check.due("15: both are friends", x.friends(21), 3);
    }

    private static void friendsRefused() {
        LeftByLast x = threeInARow();
        Check.due("15: below", x.friends(-1), -1);
        Check.due("15: no thing", x.friends(3), -1);
        Check.due("15: no customer", x.friends(30), -1);
        LeftByLast y = Texts.shop(new int[] {9, 9}, 0, 2, 50, 1);
        Texts.wishes(y, 0, 5, 9);
        Texts.wishes(y, 1, 20, 19);
        Check.due("15: what 0 takes up in two hands", y.friends(10), 0);
        Check.due("15: a friend takes it up alone", y.friends(11), 1);
        y.visit();
        y.visit();
        y.evening();
        Check.due("15: it is gone", y.friends(10), -2);
        Check.due("15: the other is not", y.friends(11), 0);
    }

    private static void nephew() {
        LeftByLast x = threeInARow();
        // Without: 20. At place 0 none buys from him; at 2, ahead of 2, thing 2 is bought, too.
        Check.due("16: at place 2 with thing 2", x.nephew(0), 22);
        Check.due("16: brings 50", x.nephew(1), 50);
        x.mend(0, 3, 31);
        x.mend(2, 3, 90);
        // 0 buys thing 2 from him at place 0; 2 buys thing 1 then, as without.
        x.mend(20, 3, 0);
        x.mend(22, 3, 0);
        Check.due("16: at place 0 with thing 2", x.nephew(0), 2);
        Check.due("16: brings 30 more", x.nephew(1), 50);
        Check.due("16: below", x.nephew(-1), -1);
        Check.due("16: above", x.nephew(2), -1);
        LeftByLast y = Texts.shop(new int[] {20, 20}, 50, 1);
        Check.due("16: nothing more", y.nephew(0), -2);
        Check.due("16: nothing more, how much", y.nephew(1), -2);
        Texts.wishes(y, 0, 30, 30);
        Check.due("16: the least of like things", y.nephew(0), 0);
        // The kind one does not know him: its next one is 1, ahead of whom he stands.
        LeftByLast z = Texts.shop(new int[] {10, 20, 5}, 0, 1, 40, 1, 40, 1);
        z.mend(0, 2, 1);
        Texts.wishes(z, 1, 12, 21, 0);
        Texts.wishes(z, 2, 0, 50, 0);
        Check.due("16: 1 buys 1 that 0 shows", z.buys(1), 1);
        Check.due("16: he shows 0 to 1, and takes what 1 would have", z.nephew(0), -2);
        goneThing();
    }

    /** He takes up nothing then, and hides what was left. */
    private static void goneThing() {
        LeftByLast x = Texts.shop(new int[] {1, 10}, 99, 1, 99, 1, 0, 1);
        Texts.wishes(x, 0, 9, 0);
        Texts.wishes(x, 1, 8, 0);
        x.visit();
        x.visit();
        x.visit();
        x.evening();
        Check.due("16: thing 0 is gone", x.of(0, 1), 0);
        Check.due("16: thing 1 is left", x.of(0, 31), 2);
        x.mend(1, 3, 50);
        x.mend(11, 3, 50);
        x.mend(0, 1, 10);
        x.mend(1, 1, 19);
        x.mend(0, 4, 9);
        Check.due("16: 0 buys it at 10", x.day(1), 10);
        Check.due("16: if it is hidden, it rises before 1 buys it", x.nephew(0), 0);
        Check.due("16: at 19", x.nephew(1), 19);
    }

    private static void nephewAtARise() {
        LeftByLast x = Texts.shop(new int[] {20}, 30, 1);
        x.mend(0, 3, 29);
        x.mend(0, 4, 4);
        Check.due("16: what he puts down rises", x.nephew(1), 24);
        x.mend(0, 4, 9);
        Check.due("16: as much as the wish", x.nephew(1), -2);
    }

    private static void price() {
        LeftByLast x = threeInARow();
        x.mend(21, 3, 0);
        Check.due("17: just below the wish", x.price(1), 25);
        x.mend(21, 3, 40);
        Check.due("17: dearer for 2", x.price(1), 39);
        Check.due("17: nobody buys it, or all is as before", x.price(0), 0);
        x.mend(1, 1, 22);
        x.mend(21, 3, 23);
        Check.due("17: what 1 has", x.price(1), 22);
        x.mend(21, 3, 40);
        x.mend(0, 4, 3);
        Check.due("17: two rises", x.price(1), 33);
        Check.due("17: below", x.price(-1), -1);
        Check.due("17: above", x.price(3), -1);
        LeftByLast y = Texts.shop(new int[] {30}, 0, 1, 99, 1);
        y.mend(10, 3, 99);
        Check.due("17: 98", y.price(0), 98);
        y.visit();
        y.visit();
        Check.due("17: gone", y.price(0), 0);
        dearest();
    }

    /** 1 would buy thing 0 at 98, and thing 3 after it at 1; at 99 things 1 and 2 are sold at 98. */
    private static void dearest() {
        LeftByLast x = Texts.shop(new int[] {50, 98, 98, 1}, 0, 1, 98, 1, 98, 1, 98, 1, 98, 1);
        Texts.wishes(x, 0, 9, 0, 0, 0);
        Texts.wishes(x, 1, 99, 0, 0, 0);
        Texts.wishes(x, 2, 0, 99, 0, 0);
        Texts.wishes(x, 3, 0, 0, 50, 60);
        Texts.wishes(x, 4, 0, 0, 99, 0);
        for (int k = 1; k <= 3; k++) x.mend(k, 2, 1);
        Check.due("17: as it is", x.day(1), 51);
        Check.due("17: so dear that nobody buys it", x.price(0), 99);
    }

    private static void enough() {
        LeftByLast x = threeInARow();
        Check.due("18: the price", x.enough(1), 20);
        Check.due("18: nothing is left", x.enough(2), -2);
        Check.due("18: nothing is left at first", x.enough(0), -2);
        x.mend(0, 4, 3);
        Check.due("18: with the rise", x.enough(1), 23);
        Check.due("18: below", x.enough(-1), -1);
        Check.due("18: above", x.enough(3), -1);
        LeftByLast y = Texts.shop(new int[] {0}, 0, 1, 0, 1);
        y.mend(10, 3, 1);
        Check.due("18: nothing is enough", y.enough(1), 0);
        y.mend(0, 0, 99);
        Check.due("18: never", y.enough(1), -2);
    }

    private static void riseFor() {
        LeftByLast x = threeInARow();
        Check.due("19: 2 buys it if 1 does not", x.riseFor(), -2);
        x.mend(21, 3, 10);
        Check.due("19: 26 is as much as the wish", x.riseFor(), 6);
        x.mend(0, 4, 9);
        Check.due("19: the rise told does not matter", x.riseFor(), 6);
        x.mend(11, 3, 29);
        Check.due("19: the most", x.riseFor(), 9);
        x.mend(11, 3, 30);
        Check.due("19: not by 9", x.riseFor(), -2);
        x.mend(11, 3, 26);
        x.mend(1, 1, 21);
        Check.due("19: 22 is more than the coin", x.riseFor(), 2);
        Check.due("19: nobody", new LeftByLast().riseFor(), -2);
    }
}
