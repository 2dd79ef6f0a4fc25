import java.util.ArrayList;
import java.util.List;

/** The takings' ways as true classes, so that Java itself finds the body that acts. */
final class OracleActs {
    interface Takes {
        int number();

        List<Integer> ran();

        default int takes(int x) {
            ran().add(1);
            return x + number();
        }
    }

    interface Tells {
        List<Integer> ran();

        int buys(int x);

        int puts(int x);

        default int tells(int x) {
            ran().add(2);
            return buys(x) - puts(1);
        }
    }

    static class Taking implements Takes, Tells {
        int number;
        List<Integer> ran;

        public int number() {
            return number;
        }

        public List<Integer> ran() {
            return ran;
        }

        public int buys(int x) {
            ran.add(10);
            return takes(x) * 2;
        }

        public int puts(int x) {
            ran.add(11);
            return x ^ number;
        }
    }

    static class Wished extends Taking {
        public int takes(int x) {
            ran.add(20);
            return super.takes(x) + 3;
        }
    }

    static class Spiteful extends Taking {
        public int buys(int x) {
            ran.add(30);
            return -super.buys(x);
        }
    }

    static class Planned extends Spiteful {
        public int puts(int x) {
            ran.add(40);
            return super.puts(x) * 3;
        }

        public int buys(int x) {
            ran.add(41);
            return super.buys(x + 1);
        }
    }

    static class Kind extends Wished {
        public int puts(int x) {
            ran.add(50);
            return super.puts(x) - takes(2);
        }
    }

    static class Paid extends Planned {
        public int tells(int x) {
            ran.add(60);
            return super.tells(x) ^ 5;
        }
    }

    static class Empty extends Taking {
        public int takes(int x) {
            ran.add(70);
            return super.takes(x) * 2;
        }
    }

    static class Double extends Kind {
        public int buys(int x) {
            ran.add(80);
            return super.buys(x) + puts(2);
        }

        public int tells(int x) {
            ran.add(81);
            return super.tells(x) - 1;
        }
    }

    static final Class<?>[] KINDS = {Taking.class, Wished.class, Spiteful.class, Planned.class, Kind.class,
        Paid.class, Empty.class, Double.class};

    private final List<Taking> all = new ArrayList<>();
    private final List<Integer> ran = new ArrayList<>();

    static int kindOf(Object taking) {
        for (int k = 0; k < 8; k++) if (taking.getClass() == KINDS[k]) return k;
        return -1;
    }

    int size() {
        return all.size();
    }

    Object get(int body) {
        return all.get(body);
    }

    int ran() {
        return ran.size();
    }

    int body(int kind) {
        if (kind < 0 || kind > 7) return -1;
        if (all.size() == 50) return -3;
        Taking[] made = {new Taking(), new Wished(), new Spiteful(), new Planned(), new Kind(), new Paid(),
            new Empty(), new Double()};
        made[kind].number = all.size();
        made[kind].ran = ran;
        all.add(made[kind]);
        return all.size() - 1;
    }

    int act(int body, int act, int x) {
        ran.clear();
        if (body < 0 || body >= all.size()) return 0;
        Taking t = all.get(body);
        switch (act) {
            case 0: return t.takes(x);
            case 1: return t.buys(x);
            case 2: return t.puts(x);
            case 3: return t.tells(x);
            default: return 0;
        }
    }

    int trace(int i) {
        return i < 0 || i >= Math.min(24, ran.size()) ? -1 : ran.get(i);
    }
}
