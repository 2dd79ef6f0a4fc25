import java.util.ArrayList;
import java.util.Arrays;
import java.util.List;

/** The document once more, written naively and another way, to compare answers with. */
public final class Oracle {
    private static final int BAD = -1, NOT = -2, FULL = -3, STATE = -5, VOID = -2000000000;

    private static final class Thing {
        int price;
        boolean there = true;
    }

    private static final class Person {
        int coin, hands, way;
        int[] wish = new int[8];
        boolean been, everBeen;
        int bought, took;
    }

    private static final class Change {
        int number, what, old, now;
    }

    private static final class Picture {
        int[] coins, prices;
        boolean[] there, been;
        List<Integer> left, row;
        int takenIn;
    }

    /** One day in thought. */
    private static final class Play {
        int[] price, coin, bought, paidBy;
        boolean[] there;
        List<Integer> left = new ArrayList<>();
        int rise, served, paid, joy;
        List<Integer> friends = new ArrayList<>();
        int shown = -1, nephewAt = -1;
    }

    private final List<Thing> things = new ArrayList<>();
    private final List<Person> people = new ArrayList<>();
    private List<Integer> row = new ArrayList<>();
    private List<Integer> left = new ArrayList<>();
    private int rise, takenIn;
    private final StringBuilder tape = new StringBuilder();
    private String text;
    private final List<Change> done = new ArrayList<>();
    private final List<Change> undone = new ArrayList<>();
    private Picture picture;
    private final OracleActs acts = new OracleActs();
    private final Object[] shelf = new Object[6];

    // ---- things, customers

    public int thing(int price) {
        if (price < 0 || price > 99) return BAD;
        if (things.size() == 8) return FULL;
        Thing t = new Thing();
        t.price = price;
        things.add(t);
        return things.size() - 1;
    }

    public int customer(int coin, int hands) {
        if (coin < 0 || coin > 99 || hands < 1 || hands > 2) return BAD;
        if (people.size() == 7) return FULL;
        Person p = new Person();
        p.coin = coin;
        p.hands = hands;
        people.add(p);
        row.add(people.size() - 1);
        return people.size() - 1;
    }

    public int customers(int s, int i, int n) {
        if (badShelf(s) || n < 1 || n > 7) return BAD;
        int came = 0;
        try {
            byte[] bytes = (byte[]) shelf[s];
            for (int at = i; came < n; at += 3) {
                int coin = bytes[at];
                int hands = bytes[at + 1];
                int way = bytes[at + 2];
                if (way < 0 || way > 4) break;
                int number = customer(coin, hands);
                if (number < 0) break;
                people.get(number).way = way;
                came++;
            }
        } catch (NullPointerException | IndexOutOfBoundsException e) {
            return came;
        } catch (ClassCastException e) {
            return -12;
        }
        return came;
    }

    private boolean isThing(int n) {
        return n >= 0 && n < things.size();
    }

    private boolean isPerson(int k) {
        return k >= 0 && k < people.size();
    }

    private boolean isBoth(int kn) {
        return kn >= 0 && isPerson(kn / 10) && isThing(kn % 10);
    }

    public int mend(int number, int what, int v) {
        int[] most = {99, 99, 4, 99, 9};
        if (what < 0 || what > 4 || v < 0 || v > most[what]) return BAD;
        if (what == 0 && !isThing(number) || (what == 1 || what == 2) && !isPerson(number)) return BAD;
        if (what == 3 && !isBoth(number) || what == 4 && number != 0) return BAD;
        Change c = new Change();
        c.number = number;
        c.what = what;
        c.now = v;
        c.old = set(number, what, v);
        if (c.old != v) {
            undone.clear();
            done.add(c);
            while (done.size() > 40) done.remove(0);
        }
        return c.old;
    }

    private int set(int number, int what, int v) {
        int old;
        if (what == 0) {
            old = things.get(number).price;
            things.get(number).price = v;
        } else if (what == 1) {
            old = people.get(number).coin;
            people.get(number).coin = v;
        } else if (what == 2) {
            old = people.get(number).way;
            people.get(number).way = v;
        } else if (what == 3) {
            old = people.get(number / 10).wish[number % 10];
            people.get(number / 10).wish[number % 10] = v;
        } else {
            old = rise;
            rise = v;
        }
        return old;
    }

    public int of(int number, int what) {
        if (what == 0 || what == 1) {
            if (!isThing(number)) return BAD;
            return what == 0 ? things.get(number).price : things.get(number).there ? 1 : 0;
        }
        if (what >= 10 && what <= 14) {
            if (!isPerson(number)) return BAD;
            Person p = people.get(number);
            int[] all = {p.coin, p.hands, p.way, row.indexOf(number), p.been ? 1 : 0};
            return all[what - 10];
        }
        if (what == 20) return isBoth(number) ? people.get(number / 10).wish[number % 10] : BAD;
        if (number != 0 || what < 30 || what > 32) return BAD;
        return what == 30 ? rise : what == 31 ? bits(left) : takenIn;
    }

    private static int bits(List<Integer> list) {
        int sum = 0;
        for (int one : list) sum += (int) Math.pow(2, one);
        return sum;
    }

    public int swap(int ij) {
        if (ij < 0 || ij > 66 || ij / 10 == ij % 10) return BAD;
        if (!isPerson(ij / 10) || !isPerson(ij % 10)) return BAD;
        for (Person p : people) if (p.been) return STATE;
        row = swapped(row, ij / 10, ij % 10);
        return row.get(ij / 10);
    }

    private static List<Integer> swapped(List<Integer> from, int i, int j) {
        List<Integer> to = new ArrayList<>(from);
        to.set(i, from.get(j));
        to.set(j, from.get(i));
        return to;
    }

    public int feed(int letter) {
        if (letter < 0 || letter > 255) return BAD;
        if (tape.length() == 120) return FULL;
        tape.append((char) letter);
        return tape.length();
    }

    public int law() {
        String told = tape.toString();
        tape.setLength(0);
        if (OracleText.isText(told)) {
            text = told;
            return 1;
        }
        return -100 - OracleText.fault(told);
    }

    // ---- a day in thought

    private Play fresh() {
        Play p = new Play();
        p.price = things.stream().mapToInt(t -> t.price).toArray();
        p.there = new boolean[things.size()];
        for (int t = 0; t < p.there.length; t++) p.there[t] = things.get(t).there;
        p.coin = people.stream().mapToInt(c -> c.coin).toArray();
        p.bought = new int[people.size()];
        p.paidBy = new int[people.size()];
        p.left.addAll(left);
        p.rise = rise;
        return p;
    }

    private Play played(Play p, List<Integer> order) {
        for (int i = 0; i < order.size(); i++) {
            if (p.nephewAt == i) leave(p, justShown(p));
            visited(p, order.get(i), i + 1 < order.size() ? order.get(i + 1) : -1);
        }
        return p;
    }

    private static List<Integer> justShown(Play p) {
        return p.there[p.shown] ? List.of(p.shown) : List.of();
    }

    private static void leave(Play p, List<Integer> what) {
        p.left = new ArrayList<>(what);
        for (int t : what) p.price[t] = Math.min(99, p.price[t] + p.rise);
    }

    private void visited(Play p, int k, int next) {
        int[] wish = people.get(k).wish;
        int best = -1;
        for (int t = 7; t >= 0; t--) {
            if (!p.left.contains(t) || !p.there[t] || p.price[t] > p.coin[k] || p.price[t] >= wish[t]) continue;
            if (best < 0 || wish[t] - p.price[t] >= wish[best] - p.price[best]) best = t;
        }
        p.bought[k] = best;
        if (best >= 0) {
            p.served++;
            p.paid += p.price[best];
            p.joy += wish[best] - p.price[best];
            p.paidBy[k] = p.price[best];
            p.coin[k] -= p.price[best];
            p.there[best] = false;
            leave(p, List.of());
        } else if (p.friends.contains(k)) {
            leave(p, justShown(p));
        } else {
            leave(p, takenUp(p, k, next));
        }
    }

    private List<Integer> takenUp(Play p, int k, int next) {
        List<Integer> can = new ArrayList<>();
        for (int t = 0; t < p.there.length; t++) if (p.there[t]) can.add(t);
        // A stable sort keeps the least number ahead among like ones.
        can.sort((a, b) -> Integer.compare(score(p, k, next, b), score(p, k, next, a)));
        return new ArrayList<>(can.subList(0, Math.min(people.get(k).hands, can.size())));
    }

    private int score(Play p, int k, int next, int t) {
        int own = people.get(k).wish[t];
        int nexts = next < 0 ? 0 : people.get(next).wish[t];
        int way = people.get(k).way;
        if (next < 0 && way < 3) return own;
        if (way == 1) return nexts;
        if (way == 2) return -nexts;
        if (way == 3) return p.price[t];
        if (way == 4 && text == null) return own + nexts;
        if (way == 4) return OracleText.value(text, new int[] {p.price[t], own, nexts, p.coin[k], t, k});
        return own;
    }

    private static int measure(Play p, int what) {
        return what == 0 ? p.served : what == 1 ? p.paid : what == 2 ? p.joy : bits(p.left);
    }

    private Play plain() {
        return played(fresh(), row);
    }

    public int buys(int k) {
        if (!isPerson(k)) return BAD;
        int t = plain().bought[k];
        return t < 0 ? NOT : t;
    }

    public int day(int what) {
        return what < 0 || what > 3 ? BAD : measure(plain(), what);
    }

    private List<List<Integer>> allRows() {
        List<List<Integer>> rows = new ArrayList<>();
        grow(new ArrayList<>(), rows);
        return rows;
    }

    private void grow(List<Integer> begun, List<List<Integer>> rows) {
        if (begun.size() == people.size()) rows.add(new ArrayList<>(begun));
        for (int k = 0; k < people.size(); k++) {
            if (begun.contains(k)) continue;
            begun.add(k);
            grow(begun, rows);
            begun.remove(begun.size() - 1);
        }
    }

    public int order(int what, int k) {
        if (what < 0 || what > 2 || k < -1 || k >= people.size()) return BAD;
        int most = Integer.MIN_VALUE;
        List<Integer> first = null;
        for (List<Integer> one : allRows()) {
            int m = measure(played(fresh(), one), what);
            if (m > most) {
                most = m;
                first = one;
            }
        }
        return k < 0 ? most : first.get(k);
    }

    public int change(int what) {
        if (what < 0 || what > 2) return BAD;
        int most = measure(plain(), what);
        int best = NOT;
        for (int ij = 0; ij < 70; ij++) {
            int i = ij / 10;
            int j = ij % 10;
            if (i >= j || !isPerson(j)) continue;
            int m = measure(played(fresh(), swapped(row, i, j)), what);
            if (m > most) {
                most = m;
                best = ij;
            }
        }
        return best;
    }

    public int place(int k) {
        if (!isPerson(k)) return VOID;
        int at = row.indexOf(k);
        return at == 0 ? 0 : own(played(fresh(), swapped(row, at, at - 1)), k) - own(plain(), k);
    }

    private int own(Play p, int k) {
        return p.bought[k] < 0 ? 0 : people.get(k).wish[p.bought[k]] - p.paidBy[k];
    }

    public int friends(int kn) {
        if (!isBoth(kn)) return BAD;
        List<Integer> ahead = row.subList(0, row.indexOf(kn / 10));
        for (int size = 0; size <= 7; size++) {
            for (int set = 0; set < 128; set++) {
                Play p = fresh();
                for (int k = 0; k < 7; k++) if ((set & 1 << k) != 0) p.friends.add(k);
                p.shown = kn % 10;
                if (p.friends.size() != size || !ahead.containsAll(p.friends)) continue;
                if (played(p, row).bought[kn / 10] == kn % 10) return set;
            }
        }
        return NOT;
    }

    public int nephew(int what) {
        if (what < 0 || what > 1) return BAD;
        int most = plain().paid;
        int best = NOT;
        for (int at = 0; at <= people.size(); at++) {
            for (int t = 0; t < things.size(); t++) {
                Play p = fresh();
                p.nephewAt = at;
                p.shown = t;
                played(p, row);
                if (p.paid > most) {
                    most = p.paid;
                    best = 10 * at + t;
                }
            }
        }
        return best == NOT || what == 0 ? best : most;
    }

    public int price(int t) {
        if (!isThing(t)) return BAD;
        int[] sums = new int[100];
        for (int price = 0; price < 100; price++) {
            Play p = fresh();
            p.price[t] = price;
            sums[price] = played(p, row).paid;
        }
        int most = Arrays.stream(sums).max().getAsInt();
        int best = 0;
        while (sums[best] != most) best++;
        return best;
    }

    public int enough(int k) {
        if (!isPerson(k)) return BAD;
        for (int coin = 0; coin < 100; coin++) {
            Play p = fresh();
            p.coin[k] = coin;
            if (played(p, row).bought[k] >= 0) return coin;
        }
        return NOT;
    }

    public int riseFor() {
        int[] served = new int[10];
        for (int r = 0; r < 10; r++) {
            Play p = fresh();
            p.rise = r;
            served[r] = played(p, row).served;
            if (served[r] < served[0]) return r;
        }
        return NOT;
    }

    // ---- in deed

    public int visit() {
        for (int i = 0; i < row.size(); i++) {
            int k = row.get(i);
            if (people.get(k).been) continue;
            Play p = fresh();
            visited(p, k, i + 1 < row.size() ? row.get(i + 1) : -1);
            Person who = people.get(k);
            who.been = true;
            who.everBeen = true;
            who.bought = p.bought[k] < 0 ? NOT : p.bought[k];
            who.took = bits(p.left);
            who.coin = p.coin[k];
            takenIn += p.paid;
            left = p.left;
            for (int t = 0; t < things.size(); t++) {
                things.get(t).price = p.price[t];
                things.get(t).there = p.there[t];
            }
            return who.bought;
        }
        return STATE;
    }

    public int evening() {
        int n = count(3);
        for (Person p : people) p.been = false;
        return n;
    }

    public int led(int k, int what) {
        if (!isPerson(k) || what < 0 || what > 1) return BAD;
        if (!people.get(k).everBeen) return STATE;
        return what == 0 ? people.get(k).bought : people.get(k).took;
    }

    // ---- days by draws, told days

    public int drawn(int seed, int n, int k) {
        if (n < 1 || n > 50 || k != -1 && !isPerson(k)) return BAD;
        int z = seed;
        int sum = 0;
        for (int d = 0; d < n; d++) {
            List<Integer> mixed = new ArrayList<>(row);
            for (int i = mixed.size() - 1; i > 0; i--) {
                z = (int) ((z * 1103515245L + 12345L) & 0xFFFFFFFFL);
                long shifted = (z & 0xFFFFFFFFL) / 256;
                mixed = swapped(mixed, i, (int) (shifted % (i + 1)));
            }
            Play p = played(fresh(), mixed);
            sum += k < 0 ? p.served : p.bought[k] < 0 ? 0 : 1;
        }
        return sum;
    }

    private int bytesRefused(int s) {
        if (badShelf(s)) return BAD;
        if (shelf[s] == null) return -11;
        return shelf[s] instanceof byte[] ? 0 : -12;
    }

    public int judge(int s) {
        int no = bytesRefused(s);
        if (no != 0) return no;
        byte[] told = (byte[]) shelf[s];
        Play p = plain();
        for (int i = 0; i < row.size(); i++) {
            if (i == told.length) return NOT;
            if (told[i] != p.bought[row.get(i)]) return i;
        }
        return NOT;
    }

    public int whose(int s) {
        int no = bytesRefused(s);
        if (no != 0) return no;
        byte[] told = (byte[]) shelf[s];
        int n = 0;
        for (List<Integer> one : allRows()) {
            Play p = played(fresh(), one);
            boolean so = true;
            for (int k = 0; k < people.size(); k++) so &= k >= told.length || told[k] == p.bought[k];
            if (so) n++;
        }
        return n;
    }

    public int image() {
        picture = new Picture();
        picture.coins = people.stream().mapToInt(p -> p.coin).toArray();
        picture.prices = things.stream().mapToInt(t -> t.price).toArray();
        picture.there = new boolean[things.size()];
        for (int t = 0; t < things.size(); t++) picture.there[t] = things.get(t).there;
        picture.been = new boolean[people.size()];
        for (int k = 0; k < people.size(); k++) picture.been[k] = people.get(k).been;
        picture.left = new ArrayList<>(left);
        picture.row = new ArrayList<>(row);
        picture.takenIn = takenIn;
        return people.size();
    }

    public int back() {
        if (picture == null) return STATE;
        for (int t = 0; t < picture.prices.length; t++) {
            things.get(t).price = picture.prices[t];
            things.get(t).there = picture.there[t];
        }
        row = new ArrayList<>(picture.row);
        for (int k = 0; k < people.size(); k++) {
            if (k >= picture.coins.length) {
                row.add(k);
                continue;
            }
            people.get(k).coin = picture.coins[k];
            people.get(k).been = picture.been[k];
        }
        left = new ArrayList<>(picture.left);
        takenIn = picture.takenIn;
        return picture.coins.length;
    }

    public int undo() {
        if (done.isEmpty()) return STATE;
        Change c = done.remove(done.size() - 1);
        undone.add(c);
        set(c.number, c.what, c.old);
        return done.size();
    }

    public int redo() {
        if (undone.isEmpty()) return STATE;
        Change c = undone.remove(undone.size() - 1);
        done.add(c);
        set(c.number, c.what, c.now);
        return undone.size();
    }

    // ---- acts, shelves

    public int body(int kind) {
        return acts.body(kind);
    }

    public int act(int body, int act, int x) {
        return acts.act(body, act, x);
    }

    public int trace(int i) {
        return acts.trace(i);
    }

    private static boolean badShelf(int s) {
        return s < 0 || s > 5;
    }

    public int keep(int s, int body) {
        if (badShelf(s) || body < -1 || body >= acts.size()) return BAD;
        shelf[s] = body == -1 ? null : acts.get(body);
        return 1;
    }

    public int row(int s, int sort, int n) {
        if (badShelf(s) || sort < 0 || sort > 4 || n > 60) return BAD;
        if (n < 0) return -14;
        Object[] rows = {new byte[n], new short[n], new int[n], new long[n], new boolean[n]};
        shelf[s] = rows[sort];
        return 1;
    }

    private int placeRefused(int s, int i) {
        if (badShelf(s)) return BAD;
        if (shelf[s] == null) return -11;
        if (!shelf[s].getClass().isArray()) return -12;
        return i < 0 || i >= java.lang.reflect.Array.getLength(shelf[s]) ? -13 : 0;
    }

    public int put(int s, int i, long v) {
        int no = placeRefused(s, i);
        if (no != 0) return no;
        if (shelf[s] instanceof byte[]) ((byte[]) shelf[s])[i] = (byte) v;
        if (shelf[s] instanceof short[]) ((short[]) shelf[s])[i] = (short) v;
        if (shelf[s] instanceof int[]) ((int[]) shelf[s])[i] = (int) v;
        if (shelf[s] instanceof long[]) ((long[]) shelf[s])[i] = v;
        if (shelf[s] instanceof boolean[]) ((boolean[]) shelf[s])[i] = v != 0;
        return 1;
    }

    public long element(int s, int i) {
        if (placeRefused(s, i) != 0) return Long.MIN_VALUE;
        if (shelf[s] instanceof boolean[]) return ((boolean[]) shelf[s])[i] ? 1 : 0;
        return java.lang.reflect.Array.getLong(shelf[s], i);
    }

    public int shift(int s, int i, int o, int j, int n) {
        if (badShelf(s) || badShelf(o)) return BAD;
        try {
            System.arraycopy(shelf[s], i, shelf[o], j, n);
        } catch (NullPointerException e) {
            return -11;
        } catch (ArrayStoreException e) {
            return -12;
        } catch (IndexOutOfBoundsException e) {
            return -13;
        }
        return n;
    }

    public int taken(int s, int k) {
        if (badShelf(s) || k < 0 || k > 7) return BAD;
        if (shelf[s] == null) return -11;
        return OracleActs.KINDS[k].isInstance(shelf[s]) ? OracleActs.kindOf(shelf[s]) : -12;
    }

    public int count(int what) {
        switch (what) {
            case 0: return things.size();
            case 1: return (int) things.stream().filter(t -> t.there).count();
            case 2: return people.size();
            case 3: return (int) people.stream().filter(p -> p.been).count();
            case 4: return tape.length();
            case 5: return done.size();
            case 6: return acts.size();
            case 7: return acts.ran();
            default: return BAD;
        }
    }
}
