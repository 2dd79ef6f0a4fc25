/** Each sentence on THE TAPE and THE LAW (terms 1, promises 8 and 9) that names a bound: a test of its own. */
public final class BoundsOfLawTest {
    private static final int LEAST = Integer.MIN_VALUE, MOST = Integer.MAX_VALUE;

    public static void main(String[] args) {
        bytes();
        fullTape();
        emptyTape();
        tapeIsEmptyThen();
        firstBytes();
        secondBytes();
        digits();
        openAtOnce();
        openNoMore();
        endsTooEarly();
        linesAndQuestions();
        comparisonsOnce();
        brackets();
        blanks();
        mostBytes();
        tooManyForTheTape();
        wraps();
        towardZero();
        byZero();
        oneOrZero();
        levels();
        joinsThatWait();
        firstLineThatCounts();
        noLineCounts();
        withoutText();
        faultLeavesTheLaw();
        namesAtTheirBounds();
        lastOneHasNoNext();
        coinThatWasPaid();
        priceThatMoved();
        aHouseOfLikeOnes();
        askedAnewAtBounds();
        askedAtFirstAtBounds();
        Check.end("BoundsOfLawTest");
    }

    /** "A byte (0 .. 255) comes to THE TAPE: how many it has. BAD". */
    private static void bytes() {
        LeftByLast x = new LeftByLast();
        Check.each("8: letter", x::feed, -1, LEAST, -1, 256, 1000, MOST);
        Check.due("8: none came", x.count(4), 0);
        Check.due("8: the least", x.feed(0), 1);
        Check.due("8: the most", x.feed(255), 2);
        Check.due("8: two", x.count(4), 2);
    }

    /** "FULL (120)". */
    private static void fullTape() {
        LeftByLast x = new LeftByLast();
        for (int i = 1; i <= 120; i++) Check.due("8: byte " + i, x.feed('7'), i);
        Check.each("8: full, letter", x::feed, -3, 0, 'p', 255);
        Check.each("8: BAD ahead of FULL, letter", x::feed, -1, -1, 256);
        Check.due("8: 120 bytes", x.count(4), 120);
        Check.due("8: the fifth digit", x.law(), -104);
        Check.due("8: a first byte again", x.feed('p'), 1);
    }

    /** "the length, if it ends too early": of an empty tape 0. */
    private static void emptyTape() {
        LeftByLast x = new LeftByLast();
        Check.due("9: no text", x.law(), -100);
        Check.due("9: nor again", x.law(), -100);
    }

    /** "THE TAPE is empty then", after a law and after a fault. */
    private static void tapeIsEmptyThen() {
        LeftByLast x = new LeftByLast();
        String[] texts = {"p", "p+", "y", "p;w", "12345", "(p"};
        for (String text : texts) {
            Texts.law(x, text);
            Check.due("9: empty behind " + text, x.count(4), 0);
            Check.due("9: no text is on it, behind " + text, x.law(), -100);
        }
    }

    /** FAULT of texts of one byte: each byte that there is. */
    private static void firstBytes() {
        LeftByLast x = new LeftByLast();
        for (int letter = 0; letter < 256; letter++) {
            x.feed(letter);
            boolean whole = "0123456789pwxcnk".indexOf(letter) >= 0;
            boolean begins = "(!-".indexOf(letter) >= 0;
            Check.due("9: byte " + letter, x.law(), whole ? 1 : begins ? -101 : -100);
            if (letter % 128 == 127) x = new LeftByLast();
        }
    }

    /** FAULT of texts of two bytes, the first a name or a digit. */
    private static void secondBytes() {
        for (char first : "p5".toCharArray()) {
            LeftByLast x = new LeftByLast();
            for (int letter = 0; letter < 256; letter++) {
                x.feed(first);
                x.feed(letter);
                boolean whole = first == '5' && letter >= '0' && letter <= '9';
                boolean goesOn = "|&<=>+-*/%?;".indexOf(letter) >= 0;
                Check.due("9: " + first + " and byte " + letter, x.law(), whole ? 1 : goesOn ? -102 : -101);
                if (letter % 128 == 127) x = new LeftByLast();
            }
        }
    }

    private static void fault(String text, int want) {
        Check.due("9: " + text, Texts.law(new LeftByLast(), text), want);
    }

    /** "a number (1 to 4 digits)". */
    private static void digits() {
        String[] numbers = {"0", "9", "00", "10", "000", "999", "0000", "0001", "9999"};
        for (String number : numbers) {
            fault(number, 1);
            fault("p+" + number, 1);
            fault("(" + number + ")", 1);
            fault("!" + number + ";" + number, 1);
        }
        fault("12345", -104);
        fault("00000", -104);
        fault("00001", -104);
        fault("p+12345", -106);
        fault("(12345)", -105);
        fault("1?12345", -106);
        fault("1;12345", -106);
        fault("-12345", -105);
        fault("1234p", -104);
        fault("1p", -101);
    }

    /** "At most 6 of ( ! - ahead of an O are open at once." */
    private static void openAtOnce() {
        for (char one : "(!-".toCharArray()) {
            for (char other : "(!-".toCharArray()) {
                String ahead = "" + one + other + one + other + one + other;
                String behind = ahead.replace("!", "").replace("-", "").replace("(", ")");
                fault(ahead + "p" + behind, 1);
                fault(ahead + one + "p", -106);
                fault(ahead + other + "p", -106);
                fault("p-" + ahead + "p" + behind, 1);
                fault("p-" + ahead + one + "p", -108);
                fault("1?" + ahead + "p" + behind, 1);
                fault("1;" + ahead + one + "p", -108);
            }
        }
        fault("(p+(p+(p+(p+(p+(p+(p", -118);
        fault("(p+(p+(p+(p+(p+(p+p))))))", 1);
        fault("(p+(p+(p+(p+(p+(p+!p", -118);
    }

    /** .. "open at once": those that were closed are open no more. */
    private static void openNoMore() {
        fault("((((((p))))))+((((((p))))))", 1);
        fault("!!!!!!p+!!!!!!p", 1);
        fault("------p*------p", 1);
        fault("!(!(!(p)))-!(!(!(p)))", 1);
        fault("(((((p)+(p)))))", 1);
        fault("((((((p)+(p)", -112);
        fault("(((((!p+!p)))))", 1);
        fault("(((((!p+!!p", -109);
        fault("-(-(-(p)+-p))", 1);
        fault("p-p-p-p-p-p-p-p-p", 1);
        fault("p--p--p--p--p--p--p", 1);
    }

    /** "the length, if it ends too early". */
    private static void endsTooEarly() {
        String[] begun = {"(", "!", "-", "p+", "p-", "p*", "p/", "p%", "p|", "p&", "p<", "p=", "p>", "p?", "p;", "p?w;",
            "p?w+", "(p", "((p)", "(p+", "p+(", "!(", "!(p", "1234+", "p;w?", "(((((("};
        for (String text : begun) fault(text, -100 - text.length());
    }

    /** "LINES, one or more, parted by ; . LINE: E, or E ? E". */
    private static void linesAndQuestions() {
        String[] whole = {"p", "p;w", "p;w;x", "p?w", "p?w;x", "p;w?x", "p?w;x?c", "p?w;x?c;n"};
        for (String text : whole) fault(text, 1);
        fault(";", -100);
        fault("?", -100);
        fault(";p", -100);
        fault("?p", -100);
        fault("p;;w", -102);
        fault("p??w", -102);
        fault("p?;w", -102);
        fault("p;?w", -102);
        fault("p?w?x", -103);
        fault("p;w?x?c", -105);
        fault("p?w;x?c?n", -107);
    }

    /** "B = S, or S < S, S = S, S > S": one of them, no more. */
    private static void comparisonsOnce() {
        for (char one : "<=>".toCharArray()) {
            fault("p" + one + "w", 1);
            fault("p" + one + one + "w", -102);
            for (char other : "<=>".toCharArray()) {
                fault("p" + one + "w" + other + "x", -103);
                fault("(p" + one + "w)" + other + "x", 1);
                fault("p" + one + "(w" + other + "x)", 1);
                fault("p" + one + "w&x" + other + "c", 1);
                fault("p" + one + "w|x" + other + "c", 1);
                fault("p" + one + "w?x" + other + "c", 1);
                fault("p+p" + one + "w+w" + other + "x", -107);
            }
        }
    }

    /** "( E )": no more and no fewer are closed, and no LINE is in them. */
    private static void brackets() {
        fault("()", -101);
        fault(")", -100);
        fault("p)", -101);
        fault("(p))", -103);
        fault("(p;w)", -102);
        fault("(p?w)", -102);
        fault("(p)(w)", -103);
        fault("(p)w", -103);
        fault("p(w)", -101);
        fault("(p)1", -103);
        fault("(p)!w", -103);
        fault("(p+)", -103);
        fault("(!)", -102);
    }

    /** "No blanks." */
    private static void blanks() {
        String text = "p+w<12?(x);!c|-n";
        fault(text, 1);
        for (int i = 0; i <= text.length(); i++) {
            fault(text.substring(0, i) + " " + text.substring(i), -100 - i);
            fault(text.substring(0, i) + "\n" + text.substring(i), -100 - i);
        }
    }

    private static String filled(String begin, String more, int length) {
        StringBuilder all = new StringBuilder(begin);
        while (all.length() + more.length() <= length) all.append(more);
        return all.toString();
    }

    /** "at most 120 bytes": texts of just so many. */
    private static void mostBytes() {
        fault(filled("p", "+w", 119) + ";", -220);
        fault(filled("10", "+w", 120), 1);
        fault(filled("10", ";w", 120), 1);
        fault(filled("10", "-1", 120), 1);
        fault(filled("p", "|w", 119), 1);
        fault(filled("", "p;", 118) + "1", 1);
        fault(filled("0?1", ";0?1", 119), 1);
        fault(filled("10", "+w", 118) + "+y", -219);
        fault(filled("p", "+w", 119) + "y", -219);
        fault(filled("p", "+w", 119) + "(", -219);
        fault(filled("p", "+w", 117) + "+!(", -220);
        fault(filled("p", "+w", 119) + "+", -220);
        // The most signs are worked out from 120 bytes like these; the second law is laid beside the first.
        LeftByLast x = shop();
        String most = filled("", "0?1;", 116) + "!0?n";
        Check.due("9: 120 bytes", most.length(), 120);
        for (int i = 0; i < 3; i++) {
            Check.due("9: so long a law, " + i, Texts.law(x, most), 1);
            Check.due("9: its last line counts, " + i, chosen(x), 3);
        }
    }

    /** Bytes that find the tape full are none of the text. */
    private static void tooManyForTheTape() {
        LeftByLast x = new LeftByLast();
        Check.due("9: the 121st and more came too late", Texts.law(x, filled("10", "+w", 120) + "+yyy"), 1);
        Check.due("9: the bracket came too late", Texts.law(x, "(" + filled("p", "+w", 119) + ")"), -220);
    }

    private static LeftByLast shop() {
        LeftByLast x = Texts.shop(new int[] {40, 10, 30, 20}, 55, 1, 66, 1);
        Texts.wishes(x, 0, 4, 3, 2, 1);
        Texts.wishes(x, 1, 1, 8, 2, 9);
        x.mend(0, 2, 4);
        x.mend(1, 2, 4);
        return x;
    }

    private static int chosen(LeftByLast x) {
        x.evening();
        x.visit();
        return Integer.numberOfTrailingZeros(x.led(0, 1));
    }

    private static void chosen(String text, int thing) {
        LeftByLast x = shop();
        Check.due("9: law " + text, Texts.law(x, text), 1);
        Check.due("9: by " + text, chosen(x), thing);
    }

    /** A number of any size as an S of the law. */
    private static String told(int v) {
        String sign = v < 0 ? "-" : "+";
        long size = Math.abs((long) v);
        String first = (v < 0 ? "-" : "") + size / 1000000 + "*1000*1000";
        return first + sign + size / 1000 % 1000 + "*1000" + sign + size % 1000;
    }

    private static void worth(String s, int v) {
        chosen("n=1&(" + s + ")=(" + told(v) + ")", 1);
        chosen("n=2|!((" + s + ")=(" + told(v) + "))", 2);
    }

    /** "Ints that wrap". */
    private static void wraps() {
        worth(told(MOST), MOST);
        worth(told(LEAST), LEAST);
        worth(told(MOST) + "+1", LEAST);
        worth(told(LEAST) + "-1", MOST);
        worth("-(" + told(LEAST) + ")", LEAST);
        worth("(" + told(MOST) + ")*2", -2);
        worth("(" + told(LEAST) + ")*2", 0);
        worth("(" + told(LEAST) + ")*-1", LEAST);
        worth("9999*9999*9999", 9999 * 9999 * 9999);
        worth("9999*9999*9999*9999", 9999 * 9999 * 9999 * 9999);
        chosen("n=1&" + told(MOST) + "+1<0", 1);
        chosen("n=3|" + told(LEAST) + ">-1", 3);
    }

    /** "/ and % toward 0". */
    private static void towardZero() {
        for (int a : new int[] {7, 6, 1, 0, -1, -6, -7}) {
            for (int b : new int[] {1, 2, 3, 8, -1, -2, -3, -8}) {
                worth(a + "/" + b, a / b);
                worth(a + "%" + b, a % b);
            }
        }
        worth("(" + told(LEAST) + ")/-1", LEAST);
        worth("(" + told(LEAST) + ")%-1", 0);
        worth("(" + told(MOST) + ")/-1", -MOST);
        worth("9999/10", 999);
        worth("9999%10", 9);
    }

    /** "by 0 they give 0". */
    private static void byZero() {
        String[] nothing = {"0/0", "0%0", "5/0", "5%0", "-5/0", "-5%0", "5/(3-3)", "5%(w-w)", "p/!1", "9999%-0"};
        for (String s : nothing) worth(s, 0);
        worth("5/0+3", 3);
        worth("7-5%0", 7);
        worth("!(5/0)", 1);
    }

    /** "| & < = > ! give 1, 0". */
    private static void oneOrZero() {
        String[] ones = {"0|1", "1|0", "2|4", "-1|0", "0|-1", "1&1", "2&4", "-1&-2", "2<3", "-1<0", "-3<-2", "3=3", "-1=-1",
            "0=0", "3>2", "0>-1", "!0", "!!7", "!-0", "0=-0"};
        String[] zeros = {"0|0", "0&0", "0&1", "1&0", "0&-1", "3<3", "3<2", "0<-1", "2=3", "1=-1", "3>3", "2>3", "-1>0", "!1",
            "!2", "!-1", "!9999", "!!0"};
        for (String one : ones) worth(one, 1);
        for (String zero : zeros) worth(zero, 0);
    }

    /** "E = A { | A }. A = B { & B }. B = S, ..": which join is tighter, and like ones from the left. */
    private static void levels() {
        String[] texts = {"1|0&0", "0&0|1", "0&1<2", "2>1&0", "3<1+1", "1+1>3", "1+2*3", "2*3+1", "7-2*3", "8-6/2", "8-6%4",
            "10-3-2", "10-3+2", "100/10/5", "100/10*5", "7*5%3", "17%10*2", "2*7/4", "-2+5", "-2*3", "!0+1", "!2*3", "!0*3",
            "--5", "-!0", "-!5", "!0=0", "-1<0", "2*(3+4)", "(2+3)*4", "2-(3-4)", "16/(8/4)", "1|1=2", "(1|1)=2", "5-!5-1"};
        int[] want = {1, 1, 0, 0, 0, 0, 7, 7, 1, 5, 6, 5, 9, 2, 50, 2, 14, 3, 3, -6, 2, 0, 3, 5, -1, 0, 0, 1, 14, 20, 3, 8, 1,
            0, 4};
        for (int i = 0; i < texts.length; i++) worth(texts[i], want[i]);
    }

    /** As many joins as can wait for one another: five of them round each of six brackets. */
    private static void joinsThatWait() {
        StringBuilder deep = new StringBuilder();
        for (int i = 0; i < 6; i++) deep.append("0|n&0<0+1*(");
        deep.append("0|n&0<0+1*n))))))");
        chosen(deep.toString(), 1);
        chosen("n=2&" + filled("0", "-1", 101) + "=-50", 2);
    }

    /** "The first LINE without a first E, or whose first E is not 0, counts". */
    private static void firstLineThatCounts() {
        chosen("n;0-n", 3);
        chosen("0?n;0-n;n", 0);
        chosen("1?n;0-n", 3);
        chosen("-1?n;0-n", 3);
        chosen("p/p-1?0-n;n", 3);
        chosen("n=2?9;n=3?8;n=2?0", 2);
        chosen("n=2?0-9;n=2?9;n=3?5", 3);
        chosen("n<3?n;0", 2);
        chosen("n>1?0;1", 0);
        chosen("n?0;n=0?0-1", 1);
    }

    /** "none: 0". */
    private static void noLineCounts() {
        chosen("0?5", 0);
        chosen("n=0?-1", 1);
        chosen("n=1?1", 1);
        chosen("n<2?0-1;n>2?0-1", 2);
        chosen("n=0?9;n=0?8", 0);
        chosen("n=0?-1;n=1?-1", 2);
    }

    /** "Without a text w and x." */
    private static void withoutText() {
        LeftByLast x = shop();
        Check.due("9: w and x are 5, 11, 4, 10", chosen(x), 1);
        x.mend(3, 3, 2);
        Check.due("9: 5, 11, 4, 11", chosen(x), 1);
        x.mend(3, 3, 3);
        Check.due("9: 5, 11, 4, 12", chosen(x), 3);
        x.mend(10, 3, 99);
        x.mend(0, 3, 99);
        Check.due("9: 198", chosen(x), 0);
        x.mend(10, 3, 0);
        x.mend(0, 3, 0);
        x.mend(3, 3, 0);
        x.mend(13, 3, 0);
        x.mend(11, 3, 1);
        Check.due("9: 0, 4, 4, 0", chosen(x), 1);
    }

    /** -100 less the FAULT: THE LAW stays as it was, or none. */
    private static void faultLeavesTheLaw() {
        LeftByLast x = shop();
        Texts.law(x, "n+");
        Check.due("9: still without a text", chosen(x), 1);
        Texts.law(x, "n");
        x.law();
        Check.due("9: an empty tape is no law", chosen(x), 3);
        Texts.law(x, "0-n;y");
        Check.due("9: nor a text with a fault behind a line", chosen(x), 3);
        for (int t = 0; t < 4; t++) x.mend(t, 0, 77);
        Check.due("9: nor, worked out anew", chosen(x), 3);
        Texts.law(x, "0-n");
        Check.due("9: another text", chosen(x), 0);
    }

    /** "NAMES: p PRICE, w the own WISH, x the next one's WISH, c the own COIN, n the THING, k the CUSTOMER." */
    private static void namesAtTheirBounds() {
        for (int v : new int[] {0, 1, 98, 99}) {
            LeftByLast x = new LeftByLast();
            for (int t = 0; t < 8; t++) x.thing(t == 5 ? v : 50);
            for (int k = 0; k < 7; k++) x.customer(k == 0 ? v : 50, 1);
            for (int t = 0; t < 8; t++) x.mend(t, 3, t == 5 ? v : 50);
            for (int t = 0; t < 8; t++) x.mend(10 + t, 3, t == 5 ? v : 50);
            x.mend(0, 2, 4);
            for (String text : new String[] {"p=" + v, "w=" + v, "x=" + v, "n=5&c=" + v, "n=5&k=0"}) {
                Texts.law(x, text);
                Check.due("9: " + text, chosen(x), 5);
            }
        }
        LeftByLast x = new LeftByLast();
        for (int t = 0; t < 8; t++) x.thing(50);
        for (int k = 0; k < 7; k++) x.customer(50, 1);
        for (int k = 0; k < 7; k++) x.mend(k, 2, 4);
        Texts.law(x, "n=7-k");
        for (int k = 0; k < 7; k++) {
            x.visit();
            Check.due("9: n 7 less k " + k, x.led(k, 1), 1 << 7 - k);
        }
    }

    /** "x the next one's WISH (0: none)". */
    private static void lastOneHasNoNext() {
        LeftByLast x = Texts.shop(new int[] {9, 9}, 0, 1, 0, 1);
        Texts.wishes(x, 0, 0, 7);
        Texts.wishes(x, 1, 0, 8);
        x.mend(0, 2, 4);
        x.mend(1, 2, 4);
        Texts.law(x, "x>0");
        Check.due("9: the next one's wish", chosen(x), 1);
        x.visit();
        Check.due("9: none behind the last", x.led(1, 1), 1);
        Texts.law(x, "n=1&x=0");
        Check.due("9: ahead of another", chosen(x), 0);
        x.visit();
        Check.due("9: it is 0", x.led(1, 1), 2);
        x.evening();
        x.swap(1);
        x.visit();
        Check.due("9: 1 ahead of 0", x.led(1, 1), 1);
        x.visit();
        Check.due("9: 0 is the last", x.led(0, 1), 2);
    }

    /** "c the own COIN": what is left of it. */
    private static void coinThatWasPaid() {
        LeftByLast x = Texts.shop(new int[] {20, 9, 9}, 0, 1, 20, 1);
        Texts.wishes(x, 0, 5, 0, 0);
        Texts.wishes(x, 1, 99, 0, 0);
        x.mend(1, 2, 4);
        Texts.law(x, "c=0&n=2");
        x.visit();
        Check.due("9: all is paid", x.visit(), 0);
        x.evening();
        x.visit();
        x.visit();
        Check.due("9: c is 0 then", x.led(1, 1), 4);
    }

    /** "p PRICE": as it has moved, in a DAY, too. */
    private static void priceThatMoved() {
        LeftByLast x = Texts.shop(new int[] {96, 50, 50}, 0, 1, 0, 1);
        Texts.wishes(x, 0, 9, 0, 0);
        x.mend(1, 2, 4);
        x.mend(0, 4, 4);
        Texts.law(x, "p=99&n=0|p=50&n=2");
        Check.due("9: in thought", x.day(3), 1);
        Texts.law(x, "p=96&n=0|p=50&n=2");
        Check.due("9: it was 96", x.day(3), 4);
    }

    /** All alike but for their numbers: each customer ahead of each other one, and last. */
    private static void aHouseOfLikeOnes() {
        LeftByLast x = new LeftByLast();
        for (int t = 0; t < 8; t++) x.thing(0);
        for (int k = 0; k < 7; k++) x.customer(0, 1);
        for (int k = 0; k < 7; k++) x.mend(k, 2, 4);
        Texts.law(x, "n=(k+3)%8");
        int[] row = {0, 1, 2, 3, 4, 5, 6};
        Draws draws = new Draws(11);
        for (int round = 0; round < 20; round++) {
            for (int i = 0; i < 7; i++) {
                x.visit();
                Check.due("9: round " + round + ", " + row[i] + " is alike but for its number", x.led(row[i], 1),
                    1 << (row[i] + 3) % 8);
            }
            x.evening();
            for (int i = 6; i > 0; i--) {
                int j = draws.below(i + 1);
                if (i == j) continue;
                x.swap(10 * i + j);
                int held = row[i];
                row[i] = row[j];
                row[j] = held;
            }
        }
    }

    private static void tellOne(LeftByLast x, char name, int v) {
        if (name == 'p') x.mend(1, 0, v);
        if (name == 'w') x.mend(1, 3, v);
        if (name == 'x') x.mend(11, 3, v);
        if (name == 'c') x.mend(0, 1, v);
    }

    /** What was worked out once is worked out anew if one number is told less, and another one more. */
    private static void askedAnewAtBounds() {
        for (char less : "pwxc".toCharArray()) {
            for (char more : "pwxc".toCharArray()) {
                for (int v : new int[] {1, 99}) {
                    if (less == more) continue;
                    String law = "n=1&" + less + "=0&" + more + "=" + v;
                    LeftByLast x = Texts.shop(new int[] {0, 0}, 0, 1, 0, 1);
                    x.mend(0, 2, 4);
                    Texts.law(x, law);
                    Check.due("9: all are 0, by " + law, chosen(x), 0);
                    tellOne(x, less, 1);
                    Check.due("9: not yet, by " + law, chosen(x), 0);
                    tellOne(x, less, 0);
                    tellOne(x, more, v);
                    Check.due("9: now, by " + law, chosen(x), 1);
                }
            }
        }
    }

    /** Each of PRICE, the own WISH, the next one's, COIN at a bound, with each of the others at one. */
    private static void askedAtFirstAtBounds() {
        int[] bounds = {0, 1, 99};
        for (int all = 0; all < 81; all++) {
            LeftByLast x = Texts.shop(new int[] {0, 0}, 0, 1, 0, 1);
            StringBuilder law = new StringBuilder("n=1");
            int i = all;
            for (char name : "pwxc".toCharArray()) {
                tellOne(x, name, bounds[i % 3]);
                law.append('&').append(name).append('=').append(bounds[i % 3]);
                i /= 3;
            }
            x.mend(0, 2, 4);
            Texts.law(x, law.toString());
            Check.due("9: at first, by " + law, chosen(x), 1);
        }
    }
}
