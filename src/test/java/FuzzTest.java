import java.lang.reflect.Method;
import java.util.ArrayList;
import java.util.List;

/** Runs of drawn calls: the class and the oracle have to answer alike, and nothing may be thrown. */
public final class FuzzTest {
    private static final int CALLS = 512;
    private static final String[] LIVELY = {"thing", "customer", "customers", "mend", "mend", "mend", "of", "of", "swap",
        "buys", "day", "change", "place", "friends", "nephew", "price", "enough", "riseFor", "visit", "visit", "visit",
        "evening", "led", "led", "drawn", "judge", "image", "back", "undo", "redo", "count", "order", "whose"};
    private static final String[] SHELVED = {"body", "act", "act", "trace", "trace", "keep", "row", "put", "put",
        "element", "element", "shift", "taken", "customers", "judge", "count"};

    private final Draws draws;
    private final LeftByLast x = new LeftByLast();
    private final Oracle y = new Oracle();
    private final List<String> told = new ArrayList<>();
    private boolean wrong;

    private FuzzTest(long seed) {
        draws = new Draws(seed);
    }

    public static void main(String[] args) {
        int runs = args.length > 0 ? Integer.parseInt(args[0]) : 250;
        int first = args.length > 1 ? Integer.parseInt(args[1]) : 1;
        for (int seed = first; seed < first + runs; seed++) new FuzzTest(seed).run(seed);
        Check.end("FuzzTest");
    }

    private void run(int seed) {
        if (seed % 7 == 0) furnishAlike();
        else if (seed % 4 != 0) furnish();
        boolean texts = seed % 3 == 0;
        boolean shelved = seed % 5 == 0;
        while (told.size() < CALLS && !wrong) {
            if (texts && draws.oneIn(25)) layLaw();
            else if (draws.oneIn(30)) tellDay();
            else if (draws.oneIn(40)) wildCall();
            else if (shelved || draws.oneIn(10)) call(SHELVED[draws.below(SHELVED.length)]);
            else call(LIVELY[draws.below(LIVELY.length)]);
        }
        if (wrong) System.out.println("seed " + seed + ": " + String.join("; ", told));
    }

    /** Few numbers in all, so that most are like others. */
    private void furnishAlike() {
        int things = draws.from(3, 8);
        int people = draws.from(2, 5);
        for (int t = 0; t < things; t++) ask("thing", draws.from(1, 2));
        for (int k = 0; k < people; k++) {
            ask("customer", draws.from(2, 4), draws.from(1, 2));
            ask("mend", k, 2, draws.oneIn(3) ? 4 : draws.from(0, 4));
            for (int t = 0; t < things; t++) ask("mend", 10 * k + t, 3, draws.from(0, 3));
        }
        if (draws.oneIn(3)) ask("mend", 0, 4, 1);
    }

    private void furnish() {
        int things = draws.from(1, 8);
        int people = draws.from(1, draws.oneIn(6) ? 7 : 5);
        for (int t = 0; t < things; t++) ask("thing", draws.from(0, 40));
        for (int k = 0; k < people; k++) {
            ask("customer", draws.from(10, 99), draws.from(1, 2));
            ask("mend", k, 2, draws.from(0, 4));
            for (int t = 0; t < things; t++) ask("mend", 10 * k + t, 3, draws.from(0, 99));
        }
        if (draws.oneIn(2)) ask("mend", 0, 4, draws.from(0, 9));
    }

    private void layLaw() {
        String text = draws.text();
        for (int i = 0; i < text.length(); i++) ask("feed", text.charAt(i));
        if (draws.oneIn(20)) ask("feed", draws.from(-1, 256));
        ask("count", 4);
        ask("law");
    }

    /** A row that tells what is bought in truth, for the most part. */
    private void tellDay() {
        int shelf = draws.below(6);
        int people = y.count(2);
        int n = Math.min(60, Math.max(0, people + draws.from(-2, 2)));
        ask("row", shelf, 0, n);
        boolean byNumbers = draws.oneIn(2);
        for (int i = 0; i < n; i++) {
            int k = i;
            for (int who = 0; who < people && !byNumbers; who++) if (y.of(who, 13) == i) k = who;
            int bought = draws.oneIn(12) ? draws.from(-2, 7) : Math.max(-1, y.buys(k));
            ask("put", shelf, i, bought);
        }
        ask("judge", shelf);
        if (people < 6) ask("whose", shelf);
    }

    private void wildCall() {
        Method[] all = LeftByLast.class.getMethods();
        Method m = all[draws.below(all.length)];
        if (m.getDeclaringClass() != LeftByLast.class) return;
        long[] values = new long[m.getParameterCount()];
        for (int i = 0; i < values.length; i++) {
            values[i] = m.getParameterTypes()[i] == long.class ? draws.anyLong() : draws.anyInt();
            if (draws.oneIn(2)) values[i] = draws.from(0, 6);
        }
        if (isDear(m.getName())) return;
        ask(m.getName(), values);
    }

    private boolean isDear(String name) {
        boolean big = name.equals("order") || name.equals("whose");
        return big && y.count(2) > 5 && !draws.oneIn(40);
    }

    private void call(String name) {
        if (isDear(name)) return;
        switch (name) {
            case "thing": ask(name, draws.from(-1, 100)); break;
            case "customer": ask(name, draws.from(-1, 100), draws.from(0, 3)); break;
            case "customers": threes(); break;
            case "mend": mend(); break;
            case "of": ask(name, number(), ofWhat()); break;
            case "swap": ask(name, draws.oneIn(4) ? draws.from(-2, 80) : kn()); break;
            case "order": ask(name, draws.from(draws.oneIn(9) ? -1 : 0, 2), draws.from(-1, 5)); break;
            case "friends": ask(name, kn()); break;
            case "led": ask(name, person(), draws.from(draws.oneIn(9) ? -1 : 0, 1)); break;
            case "drawn": ask(name, draws.anyInt(), draws.oneIn(6) ? draws.from(-1, 51) : draws.from(1, 9),
                draws.oneIn(3) ? -1 : person()); break;
            case "day": case "change": case "nephew": ask(name, draws.from(draws.oneIn(9) ? -1 : 0, 3)); break;
            case "buys": case "place": case "enough": ask(name, person()); break;
            case "price": ask(name, draws.from(draws.oneIn(9) ? -1 : 0, 8)); break;
            case "judge": case "whose": ask(name, shelf()); break;
            case "count": ask(name, draws.from(-1, 8)); break;
            case "body": ask(name, draws.from(draws.oneIn(9) ? -1 : 0, draws.oneIn(9) ? 8 : 7)); break;
            case "act": ask(name, draws.from(-1, y.count(6)), draws.from(draws.oneIn(9) ? -1 : 0, draws.oneIn(9) ? 4 : 3),
                draws.anyInt()); traceAll(); break;
            case "trace": ask(name, draws.from(-1, 25)); break;
            case "keep": ask(name, shelf(), draws.from(-2, y.count(6))); break;
            case "row": ask(name, shelf(), draws.from(draws.oneIn(9) ? -1 : 0, draws.oneIn(9) ? 5 : 4),
                draws.oneIn(3) ? draws.from(-2, 62) : draws.from(0, 9)); break;
            case "put": ask(name, shelf(), draws.from(-1, 9), draws.anyLong()); break;
            case "element": ask(name, shelf(), draws.from(-1, 9)); break;
            case "shift": ask(name, shelf(), draws.from(-1, 9), shelf(), draws.from(-1, 9), draws.from(-1, 6)); break;
            case "taken": ask(name, shelf(), draws.from(-1, 8)); break;
            default: ask(name);
        }
    }

    private void traceAll() {
        int ran = y.count(7);
        ask("count", 7);
        for (int i = 0; i <= ran && draws.oneIn(2); i++) ask("trace", i);
    }

    private void threes() {
        int s = shelf();
        if (draws.oneIn(2)) {
            int n = draws.from(0, 8);
            ask("row", s, 0, n);
            for (int i = 0; i < n; i++) {
                int[] low = {draws.oneIn(9) ? -1 : 0, draws.oneIn(9) ? 0 : 1, draws.oneIn(9) ? -1 : 0};
                int[] high = {draws.oneIn(9) ? 127 : 99, draws.oneIn(9) ? 3 : 2, draws.oneIn(9) ? 5 : 4};
                ask("put", s, i, draws.from(low[i % 3], high[i % 3]));
            }
        }
        ask("customers", s, draws.oneIn(3) ? draws.from(-4, 9) : 0, draws.oneIn(4) ? draws.from(0, 8) : draws.from(1, 2));
    }

    private void mend() {
        int what = draws.oneIn(15) ? draws.from(-1, 5) : draws.from(0, 4);
        int number = what == 3 ? kn() : what == 4 ? (draws.oneIn(9) ? 1 : 0) : draws.from(draws.oneIn(9) ? -1 : 0, 7);
        int high = what == 2 ? 4 : what == 4 ? 9 : 99;
        int v = draws.oneIn(12) ? draws.from(-1, high + 1) : draws.from(0, high);
        if (draws.oneIn(8)) v = y.of(number, what == 3 ? 20 : what == 4 ? 30 : what == 0 ? 0 : what == 1 ? 10 : 12);
        ask("mend", number, what, v);
    }

    private int number() {
        return draws.oneIn(3) ? kn() : draws.oneIn(3) ? 0 : draws.from(-1, 8);
    }

    private int ofWhat() {
        int[] all = {0, 1, 10, 11, 12, 13, 14, 20, 30, 31, 32};
        return draws.oneIn(12) ? draws.from(-1, 34) : all[draws.below(all.length)];
    }

    private int kn() {
        return draws.oneIn(9) ? draws.from(-1, 79) : 10 * draws.from(0, 5) + draws.from(0, 7);
    }

    private int person() {
        return draws.oneIn(9) ? draws.from(-1, 7) : draws.from(0, Math.max(0, y.count(2) - 1));
    }

    private int shelf() {
        return draws.oneIn(12) ? draws.from(-1, 6) : draws.from(0, 5);
    }

    private void ask(String name, long... values) {
        if (wrong || told.size() >= CALLS) return;
        StringBuilder call = new StringBuilder(name).append('(');
        for (int i = 0; i < values.length; i++) call.append(i == 0 ? "" : ", ").append(values[i]);
        told.add(call.append(')').toString());
        long got = Calls.answer(x, name, values);
        long want = Calls.answer(y, name, values);
        Check.due(call.toString(), got, want);
        wrong = got != want;
    }
}
