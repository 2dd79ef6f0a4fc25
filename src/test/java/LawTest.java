/** Promises 8 and 9: the tape and the law. */
public final class LawTest {
    public static void main(String[] args) {
        feed();
        faults();
        faultsDeep();
        lawStaysBehindAFault();
        withoutText();
        numbers();
        lines();
        names();
        alike();
        askedAnew();
        Check.end("LawTest");
    }

    private static void feed() {
        LeftByLast x = new LeftByLast();
        Check.due("8: below", x.feed(-1), -1);
        Check.due("8: above", x.feed(256), -1);
        for (int i = 1; i <= 120; i++) Check.due("8: byte " + i, x.feed(i % 2 == 0 ? 255 : 0), i);
        Check.due("8: full", x.feed('p'), -3);
        Check.due("8: BAD ahead of FULL", x.feed(256), -1);
        Check.due("8: how many", x.count(4), 120);
        Check.due("8: the first is wrong", x.law(), -100);
        Check.due("8: empty then", x.count(4), 0);
        Check.due("8: anew", x.feed('p'), 1);
        Check.due("8: a law", x.law(), 1);
        Check.due("8: empty then, too", x.count(4), 0);
    }

    private static void fault(String text, int want) {
        Check.due("9: " + text, Texts.law(new LeftByLast(), text), want);
    }

    private static void faults() {
        String[] whole = {"p", "0", "9999", "0000", "p+w-x*c/n%k", "p<w", "p=w|x>c&n<k", "!p", "-p", "--!!-!9",
            "p--w", "p-!w", "((((((p))))))", "(p<w)<x", "p?w", "p?w;x", "p;w;x", "p?1;2?3;4", "-(!(p)+2)*3"};
        for (String text : whole) fault(text, 1);
        String[] early = {"", "p+", "p<", "(", "(p", "!", "-", "p?", "p;", "p|", "p&", "1;2?", "p*(", "!-("};
        for (String text : early) fault(text, -100 - text.length());
        fault("y", -100);
        fault(" p", -100);
        fault("p ", -101);
        fault("pw", -101);
        fault("1p", -101);
        fault("p1", -101);
        fault("12345", -104);
        fault("p<w<x", -103);
        fault("p=w>x", -103);
        fault("(p<w=x)", -104);
        fault("p?w?x", -103);
        fault("(p?w)", -102);
        fault("(p;w)", -102);
        fault("p)", -101);
        fault("()", -101);
        fault("p!w", -101);
        fault("p(w)", -101);
        fault("p+*w", -102);
        fault(";p", -100);
        fault("p;;w", -102);
        fault("?p", -100);
        fault("p||w", -102);
        fault("\u00e9", -100);
    }

    private static void faultsDeep() {
        fault("!!!!!!p", 1);
        fault("!!!!!!!p", -106);
        fault("------p", 1);
        fault("-------p", -106);
        fault("(((((((p", -106);
        fault("!-(!-(p))", 1);
        fault("!-(!-(-p))", -106);
        fault("((((((p))))))+((((((p))))))", 1);
        fault("!-p+!-p+!-p+!-p", 1);
        fault("(((((p-(w)))))))", -115);
        fault("(((((p-((w)))))))", -108);
        StringBuilder longest = new StringBuilder("p");
        while (longest.length() < 119) longest.append("+w");
        fault(longest + "+", -220);
        fault(longest.toString(), 1);
        StringBuilder lines = new StringBuilder("0?1");
        while (lines.length() < 117) lines.append(";0?1");
        fault(lines.toString(), 1);
    }

    private static LeftByLast shop() {
        LeftByLast x = new LeftByLast();
        for (int t = 0; t < 4; t++) x.thing(new int[] {40, 10, 30, 20}[t]);
        x.customer(55, 1);
        x.customer(66, 1);
        Texts.wishes(x, 0, 4, 3, 2, 1);
        Texts.wishes(x, 1, 1, 8, 2, 9);
        x.mend(0, 2, 4);
        x.mend(1, 2, 4);
        return x;
    }

    private static int chosen(LeftByLast x) {
        x.evening();
        x.visit();
        return x.led(0, 1);
    }

    private static void chosen(String text, int thing) {
        LeftByLast x = shop();
        Check.due("9: law " + text, Texts.law(x, text), 1);
        Check.due("9: by " + text, chosen(x), 1 << thing);
    }

    private static void lawStaysBehindAFault() {
        LeftByLast x = shop();
        Texts.law(x, "n");
        Check.due("9: fault", Texts.law(x, "p+"), -102);
        Check.due("9: the law stays", chosen(x), 8);
        Texts.law(x, "p");
        Check.due("9: another law", chosen(x), 1);
    }

    private static void withoutText() {
        LeftByLast x = shop();
        Check.due("9: w and x: 5, 11, 4, 10", chosen(x), 2);
        x.visit();
        Check.due("9: the last one's x is 0", x.led(1, 1), 8);
    }

    private static void numbers() {
        chosen("0", 0);
        chosen("n=2", 2);
        chosen("0-n", 0);
        chosen("-p", 1);
        chosen("p/0+n", 3);
        chosen("p%0+n", 3);
        chosen("n%3", 2);
        chosen("(n-3)/2*10+n*2", 3);
        chosen("(0-1-n)/2+n*0", 0);
        chosen("!n", 0);
        chosen("!(n=0)&!(n=1)", 2);
        chosen("n=3|n=1", 1);
        chosen("2*3-4*(n-1)*(n-1)", 1);
        chosen("10-2-n*n+n*4", 2);
        chosen("n<2", 0);
        chosen("1<n", 2);
        chosen("n>2", 3);
        chosen("5&n", 1);
        chosen("(0|n)*(4-n)", 1);
        // 9999 * 9999 * 30 wraps to a number below 0, 0 does not.
        chosen("9999*9999*30*(n>0)", 0);
        chosen("(0-9999*9999*30)*(n=2)", 2);
        chosen("(7-10)%2+(n=1)*0", 0);
        chosen("((n-2)%2=0-1)*5+(n=3)", 1);
        chosen("p*2-p-p+n", 3);
        // What is 1, or 0, is so in truth: by anything else thing 0 would be chosen, or another.
        String[] ones = {"!0", "2&3", "0|7", "7|0", "7|2", "1<2", "2>1", "5=5", "!!9", "!0&-3"};
        for (String one : ones) chosen("n=(" + one + ")", 1);
        String[] zeros = {"!5", "0&4", "4&0", "0|0", "2<2", "2>2", "3=4", "6/0", "6%0", "0/0", "!-1"};
        for (String zero : zeros) chosen("n=2+(" + zero + ")", 2);
        chosen("n=2*((0-2147*1000*1000-483*1000-648)/(0-1)<0)", 2);
        chosen("n=3-(0-2147*1000*1000-483*1000-648)%(0-1)", 3);
        chosen("(1-p)/20", 1);
    }

    private static void lines() {
        chosen("n=2?7;n", 2);
        chosen("n>9?7;n>0?5-n;3", 1);
        chosen("n=1?1", 1);
        chosen("n=1?-1", 0);
        chosen("5;n", 0);
        chosen("n?0-n;0-9", 1);
        chosen("n=1?0;n=2?9;n=3?5", 2);
        chosen("0?9;n", 3);
        // The most signs that 120 bytes can tell, with one more for the end.
        StringBuilder most = new StringBuilder();
        for (int i = 0; i < 29; i++) most.append("0?1;");
        chosen(most + "!0?n", 3);
    }

    private static void names() {
        chosen("p", 0);
        chosen("w", 0);
        chosen("0-w", 3);
        chosen("x", 3);
        chosen("x%9", 1);
        chosen("n", 3);
        chosen("c=55&n=2", 2);
        chosen("c=66&n=2", 0);
        chosen("k=0&n=2", 2);
        chosen("k=1&n=2", 0);
        LeftByLast x = shop();
        Texts.law(x, "c=66&k=1&x=0&w=2");
        chosen(x);
        x.visit();
        Check.due("9: the last one's names", x.led(1, 1), 4);
        x.mend(12, 3, 0);
        x.mend(10, 3, 2);
        chosen(x);
        x.visit();
        Check.due("9: another wish, another number", x.led(1, 1), 1);
        x.mend(1, 1, 65);
        Texts.law(x, "c=66?n;0-n");
        chosen(x);
        x.visit();
        Check.due("9: another coin, another number", x.led(1, 1), 1);
    }

    /** Things and customers that are alike but for their numbers. */
    private static void alike() {
        LeftByLast x = new LeftByLast();
        for (int t = 0; t < 4; t++) x.thing(10);
        for (int k = 0; k < 4; k++) x.customer(0, 1);
        for (int k = 0; k < 4; k++) x.mend(k, 2, 4);
        Texts.law(x, "n=(k+1)%4");
        for (int round = 0; round < 2; round++) {
            for (int k = 0; k < 4; k++) {
                x.visit();
                Check.due("9: alike but for k = " + k, x.led(k, 1), 1 << (k + 1) % 4);
            }
            x.evening();
        }
        Texts.law(x, "n=(k+2)%4");
        x.visit();
        Check.due("9: another law is asked anew", x.led(0, 1), 4);
    }

    /** The next one's wish, the own wish, the coin and the price, each told another number. */
    private static void askedAnew() {
        int[][] mends = {{1, 0, 50}, {1, 3, 50}, {11, 3, 50}, {0, 1, 50}};
        String[] laws = {"p=50", "w=50", "x=50", "(c=50)*(n=1)"};
        for (int i = 0; i < laws.length; i++) {
            LeftByLast x = shop();
            Texts.law(x, laws[i]);
            Check.due("9: none by " + laws[i], chosen(x), 1);
            x.mend(mends[i][0], mends[i][1], mends[i][2]);
            Check.due("9: thing 1 by " + laws[i], chosen(x), 2);
            x.undo();
            Check.due("9: none again by " + laws[i], chosen(x), 1);
        }
    }
}
