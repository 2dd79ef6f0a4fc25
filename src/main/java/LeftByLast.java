import java.util.Arrays;

/** A shop that sells only what the last one left. What each call promises stands in DOC.md. */
public final class LeftByLast {
    public static final int BAD = -1, NOT = -2, FULL = -3, STATE = -5, VOID = -2000000000;

    private static final int ABSENT = -11, UNLIKE = -12, NO_PLACE = -13, BELOW_0 = -14;
    private static final int MOST_THINGS = 8, MOST_CUSTOMERS = 7, MOST_WORTH = 99, MOST_RISE = 9;
    private static final int NOTHING = -1, NOBODY = -1;
    private static final int PRICE = 0, COIN = 1, WAY = 2, WISH = 3, RISE = 4;
    private static final int OWN_WISH = 0, KIND = 1, SPITE = 2, DEAREST = 3, BY_LAW = 4;

    private final Shop shop;
    private final Law rule;
    private final Thought thought;
    private final Changes changes;
    private final Image kept;
    private final Acts acts;
    private final Shelves shelves;
    private final int[] told;

    public LeftByLast() {
        shop = new Shop();
        rule = new Law();
        thought = new Thought(shop, rule);
        changes = new Changes();
        kept = new Image();
        acts = new Acts();
        shelves = new Shelves();
        told = new int[MOST_CUSTOMERS];
    }

    // ---- things, customers

    public int thing(int price) {
        if (price < 0 || price > MOST_WORTH) return BAD;
        return shop.addThing(price);
    }

    public int customer(int coin, int hands) {
        if (!isCustomerSo(coin, hands, OWN_WISH)) return BAD;
        return shop.addCustomer(coin, hands, OWN_WISH);
    }

    public int customers(int shelf, int i, int n) {
        if (!shelves.isShelf(shelf) || n < 1 || n > MOST_CUSTOMERS) return BAD;
        int refusal = shelves.refusalOfBytes(shelf);
        if (refusal == ABSENT) return 0;
        if (refusal != 0) return refusal;
        int came = 0;
        // No range is told for i: a place below 0, or behind the end, is one where the row has ended.
        int at = i;
        while (came < n && shelves.hasPlaces(shelf, at, 3) && cameFrom(shelf, at)) {
            came++;
            at += 3;
        }
        return came;
    }

    private boolean cameFrom(int shelf, int at) {
        int coin = (int) shelves.valueAt(shelf, at);
        int hands = (int) shelves.valueAt(shelf, at + 1);
        int way = (int) shelves.valueAt(shelf, at + 2);
        return isCustomerSo(coin, hands, way) && shop.addCustomer(coin, hands, way) >= 0;
    }

    private static boolean isCustomerSo(int coin, int hands, int way) {
        return coin >= 0 && coin <= MOST_WORTH && (hands == 1 || hands == 2) && way >= 0 && way <= BY_LAW;
    }

    public int mend(int number, int what, int v) {
        int was = shop.toldOf(number, what);
        if (was < 0 || v < 0 || v > mostOf(what)) return BAD;
        if (v != was) {
            shop.lay(number, what, v);
            changes.add(number, what, was, v);
        }
        return was;
    }

    private static int mostOf(int what) {
        if (what == WAY) return BY_LAW;
        return what == RISE ? MOST_RISE : MOST_WORTH;
    }

    public int of(int number, int what) {
        if (what == 0) return shop.toldOf(number, PRICE);
        if (what == 1) return shop.isThing(number) ? bit(shop.now.there, number) : BAD;
        if (what >= 10 && what <= 14) return shop.isCustomer(number) ? ofCustomer(number, what) : BAD;
        if (what == 20) return shop.toldOf(number, WISH);
        if (number != 0) return BAD;
        if (what == 30) return shop.rise;
        if (what == 31) return shop.now.left;
        return what == 32 ? shop.takenIn : BAD;
    }

    private int ofCustomer(int customer, int what) {
        if (what == 10) return shop.coin[customer];
        if (what == 11) return shop.hands[customer];
        if (what == 12) return shop.way[customer];
        return what == 13 ? shop.placeOf(customer) : bit(shop.been, customer);
    }

    public int swap(int ij) {
        int i = ij / 10;
        int j = ij % 10;
        if (ij < 0 || i == j || !shop.isCustomer(i) || !shop.isCustomer(j)) return BAD;
        if (shop.been != 0) return STATE;
        exchange(shop.row, i, j);
        return shop.row[i];
    }

    public int feed(int letter) {
        if (letter < 0 || letter > 255) return BAD;
        return rule.feedOn(letter);
    }

    public int law() {
        return rule.lay();
    }

    // ---- a day in thought

    public int buys(int customer) {
        if (!shop.isCustomer(customer)) return BAD;
        thought.day.begin();
        thought.day.goThrough(0, MOST_CUSTOMERS);
        return orNot(thought.day.bought[customer]);
    }

    public int day(int what) {
        if (what < 0 || what > 3) return BAD;
        thought.day.begin();
        thought.day.goThrough(0, MOST_CUSTOMERS);
        return what == 3 ? thought.day.end().left : thought.day.end().sum(what);
    }

    public int order(int measure, int k) {
        if (!isMeasure(measure) || k < -1 || k >= shop.customers) return BAD;
        thought.seekRow(measure);
        return k < 0 ? thought.most : thought.bestRow[k];
    }

    public int change(int measure) {
        return isMeasure(measure) ? thought.bestChange(measure) : BAD;
    }

    private static boolean isMeasure(int measure) {
        return measure >= 0 && measure <= 2;
    }

    public int place(int customer) {
        return shop.isCustomer(customer) ? thought.worthOfPlaceAhead(customer) : VOID;
    }

    public int friends(int kn) {
        return shop.isPair(kn) ? thought.fewestFriends(kn / 10, kn % 10) : BAD;
    }

    public int nephew(int what) {
        if (what < 0 || what > 1) return BAD;
        int best = thought.bestNephew();
        if (best < 0) return NOT;
        return what == 0 ? best : thought.most;
    }

    public int price(int thing) {
        return shop.isThing(thing) ? thought.bestPrice(thing) : BAD;
    }

    public int enough(int customer) {
        return shop.isCustomer(customer) ? thought.leastCoin(customer) : BAD;
    }

    public int riseFor() {
        return thought.leastRise();
    }

    // ---- in deed

    public int visit() {
        int place = shop.firstNotBeen();
        if (place < 0) return STATE;
        int customer = shop.row[place];
        Moment after = thought.day.visitAlone(place);
        int bought = thought.day.bought[customer];
        shop.takeOver(customer, bought, after);
        return orNot(bought);
    }

    public int evening() {
        int were = Integer.bitCount(shop.been);
        shop.been = 0;
        return were;
    }

    public int led(int customer, int what) {
        if (!shop.isCustomer(customer) || what < 0 || what > 1) return BAD;
        if (bit(shop.led, customer) == 0) return STATE;
        return what == 0 ? orNot(shop.lastBought[customer]) : shop.lastTaken[customer];
    }

    // ---- days by draws, told days

    public int drawn(int seed, int n, int customer) {
        if (n < 1 || n > 50 || customer < -1 || customer >= shop.customers) return BAD;
        return thought.servedByDraws(seed, n, customer);
    }

    public int judge(int shelf) {
        if (!shelves.isShelf(shelf)) return BAD;
        int refusal = shelves.refusalOfBytes(shelf);
        if (refusal != 0) return refusal;
        return thought.firstUntrue(told, shelves.readInto(told, shelf));
    }

    public int whose(int shelf) {
        if (!shelves.isShelf(shelf)) return BAD;
        int refusal = shelves.refusalOfBytes(shelf);
        if (refusal != 0) return refusal;
        return thought.rowsWithSuch(told, shelves.readInto(told, shelf));
    }

    public int image() {
        return kept.take(shop);
    }

    public int back() {
        return kept.isThere ? kept.layBack(shop) : STATE;
    }

    public int undo() {
        return changes.done == 0 ? STATE : changes.layOld(shop);
    }

    public int redo() {
        return changes.undone == 0 ? STATE : changes.layNew(shop);
    }

    // ---- acts, shelves

    public int body(int kind) {
        if (kind < 0 || kind >= Acts.KINDS) return BAD;
        return acts.add(kind);
    }

    public int act(int body, int act, int x) {
        return acts.begin(body, act, x);
    }

    public int trace(int i) {
        return acts.isTraced(i) ? acts.traced[i] : BAD;
    }

    public int keep(int shelf, int body) {
        if (!shelves.isShelf(shelf) || body < -1 || body >= acts.bodies) return BAD;
        shelves.hold(shelf, body);
        return 1;
    }

    public int row(int shelf, int sort, int n) {
        if (!shelves.isShelf(shelf) || sort < 0 || sort > Shelves.BOOLEANS || n > Shelves.LONGEST) return BAD;
        if (n < 0) return BELOW_0;
        shelves.holdRow(shelf, sort, n);
        return 1;
    }

    public int put(int shelf, int i, long v) {
        if (!shelves.isShelf(shelf)) return BAD;
        int refusal = shelves.refusalOfPlace(shelf, i);
        if (refusal != 0) return refusal;
        shelves.store(shelf, i, v);
        return 1;
    }

    public long element(int shelf, int i) {
        if (!shelves.isShelf(shelf) || shelves.refusalOfPlace(shelf, i) != 0) return Long.MIN_VALUE;
        return shelves.valueAt(shelf, i);
    }

    public int shift(int shelf, int i, int other, int j, int n) {
        if (!shelves.isShelf(shelf) || !shelves.isShelf(other)) return BAD;
        int refusal = shelves.refusalOfPair(shelf, other);
        if (refusal != 0) return refusal;
        if (!shelves.hasPlaces(shelf, i, n) || !shelves.hasPlaces(other, j, n)) return NO_PLACE;
        shelves.copy(shelf, i, other, j, n);
        return n;
    }

    public int taken(int shelf, int k) {
        if (!shelves.isShelf(shelf) || k < 0 || k >= Acts.KINDS) return BAD;
        if (shelves.sort[shelf] == Shelves.EMPTY) return ABSENT;
        if (shelves.sort[shelf] != Shelves.TAKING) return UNLIKE;
        int kind = acts.kindOf(shelves.body[shelf]);
        return Acts.isUnder(kind, k) ? kind : UNLIKE;
    }

    public int count(int what) {
        switch (what) {
            case 0: return shop.things;
            case 1: return Integer.bitCount(shop.now.there);
            case 2: return shop.customers;
            case 3: return Integer.bitCount(shop.been);
            case 4: return rule.fed;
            case 5: return changes.done;
            case 6: return acts.bodies;
            case 7: return acts.ran;
            default: return BAD;
        }
    }

    private static int bit(int bits, int i) {
        return bits >> i & 1;
    }

    private static int orNot(int bought) {
        return bought < 0 ? NOT : bought;
    }

    private static void exchange(int[] row, int i, int j) {
        int held = row[i];
        row[i] = row[j];
        row[j] = held;
    }

    /** What a visit changes, and the sums of a day up to here. */
    private static final class Moment {
        int there, left;
        int served, paid, joy;
        final int[] price = new int[MOST_THINGS];

        void become(Moment other) {
            there = other.there;
            left = other.left;
            served = other.served;
            paid = other.paid;
            joy = other.joy;
            System.arraycopy(other.price, 0, price, 0, MOST_THINGS);
        }

        void clearSums() {
            served = 0;
            paid = 0;
            joy = 0;
        }

        void sell(int thing, int gain) {
            served++;
            paid += price[thing];
            joy += gain;
            there &= ~(1 << thing);
            left = 0;
        }

        void putDown(int things, int rise) {
            left = things;
            for (int t = 0; t < MOST_THINGS; t++) {
                if (bit(left, t) == 1) price[t] = Math.min(MOST_WORTH, price[t] + rise);
            }
        }

        int sum(int measure) {
            if (measure == 0) return served;
            return measure == 1 ? paid : joy;
        }
    }

    /** The shop in deed: what was told, and what the visits made of it. */
    private static final class Shop {
        int things, customers, rise, been, takenIn, led;
        final int[] coin = new int[MOST_CUSTOMERS];
        final int[] hands = new int[MOST_CUSTOMERS];
        final int[] way = new int[MOST_CUSTOMERS];
        final int[] row = new int[MOST_CUSTOMERS];
        final int[] lastBought = new int[MOST_CUSTOMERS];
        final int[] lastTaken = new int[MOST_CUSTOMERS];
        final int[] wish = new int[MOST_CUSTOMERS * MOST_THINGS];
        final Moment now = new Moment();

        boolean isThing(int number) {
            return number >= 0 && number < things;
        }

        boolean isCustomer(int number) {
            return number >= 0 && number < customers;
        }

        boolean isPair(int kn) {
            return kn >= 0 && isCustomer(kn / 10) && isThing(kn % 10);
        }

        int addThing(int price) {
            if (things >= MOST_THINGS) return FULL;
            now.price[things] = price;
            now.there |= 1 << things;
            return things++;
        }

        int addCustomer(int itsCoin, int itsHands, int itsWay) {
            if (customers >= MOST_CUSTOMERS) return FULL;
            coin[customers] = itsCoin;
            hands[customers] = itsHands;
            way[customers] = itsWay;
            row[customers] = customers;
            return customers++;
        }

        int wishOf(int customer, int thing) {
            return customer == NOBODY ? 0 : wish[customer * MOST_THINGS + thing];
        }

        int toldOf(int number, int what) {
            switch (what) {
                case PRICE: return isThing(number) ? now.price[number] : BAD;
                case COIN: return isCustomer(number) ? coin[number] : BAD;
                case WAY: return isCustomer(number) ? way[number] : BAD;
                case WISH: return isPair(number) ? wishOf(number / 10, number % 10) : BAD;
                case RISE: return number == 0 ? rise : BAD;
                default: return BAD;
            }
        }

        void lay(int number, int what, int v) {
            if (what == PRICE && isThing(number)) now.price[number] = v;
            if (what == COIN && isCustomer(number)) coin[number] = v;
            if (what == WAY && isCustomer(number)) way[number] = v;
            if (what == WISH && isPair(number)) wish[number / 10 * MOST_THINGS + number % 10] = v;
            if (what == RISE) rise = v;
        }

        int placeOf(int customer) {
            int place = 0;
            for (int i = 0; i < customers; i++) {
                if (row[i] == customer) place = i;
            }
            return place;
        }

        int firstNotBeen() {
            for (int i = 0; i < customers; i++) {
                if (bit(been, row[i]) == 0) return i;
            }
            return -1;
        }

        void takeOver(int customer, int bought, Moment after) {
            now.become(after);
            coin[customer] -= after.paid;
            takenIn += after.paid;
            been |= 1 << customer;
            led |= 1 << customer;
            lastBought[customer] = bought;
            // Who bought leaves none, so LEFT is what was taken up in either case.
            lastTaken[customer] = after.left;
        }
    }

    /** The tape, and the law that was read from it, kept as signs in the order in which they are worked out. */
    private static final class Law {
        private static final int LONGEST = 120, MOST_OPEN = 6, MOST_DIGITS = 4, TIGHTEST = 4, COMPARING = 2;
        private static final int NAMES = 6, END = -1, MINUS = '~';
        private static final int ASKS = MOST_CUSTOMERS * (MOST_CUSTOMERS + 1) * MOST_THINGS;

        int fed;
        private int at, draftLength, codeLength;
        private final int[] tape = new int[LONGEST];
        // The law in force stays as it is when a new text has a fault, so each is read into a draft.
        private int[] code = new int[LONGEST + 1];
        private int[] draft = new int[LONGEST + 1];
        private final int[] named = new int[NAMES];
        // Deep enough for five joins that wait in each of seven nested expressions.
        private final int[] pile = new int[64];
        // ORDER and WHOSE ask the same numbers thousands of times, so the latest of each are kept.
        private final int[] asked = new int[ASKS];
        private final int[] answered = new int[ASKS];

        int feedOn(int letter) {
            if (fed >= LONGEST) return FULL;
            tape[fed] = letter;
            return ++fed;
        }

        int lay() {
            boolean whole = readText();
            fed = 0;
            if (!whole) return -100 - at;
            int[] old = code;
            code = draft;
            draft = old;
            codeLength = draftLength;
            Arrays.fill(asked, 0);
            return 1;
        }

        private int sign() {
            return at >= 0 && at < fed ? tape[at] : END;
        }

        private void note(int sign) {
            if (draftLength < draft.length) draft[draftLength++] = sign;
        }

        private boolean readText() {
            at = 0;
            draftLength = 0;
            boolean asks = false;
            for (int part = 0; part <= LONGEST; part++) {
                if (!readJoined(0, 0)) return false;
                int after = sign();
                if (after == '?') {
                    if (asks) return false;
                    note(-'?');
                } else {
                    if (after != ';' && after != END) return false;
                    note(-';');
                    if (after == END) return true;
                }
                asks = after == '?';
                at++;
            }
            return false;
        }

        private boolean readJoined(int level, int open) {
            if (level > TIGHTEST) return readOperand(open);
            if (!readJoined(level + 1, open)) return false;
            int most = level == COMPARING ? 1 : LONGEST;
            for (int i = 0; i < most && levelOf(sign()) == level; i++) {
                int join = sign();
                at++;
                if (!readJoined(level + 1, open)) return false;
                note(-join);
            }
            return true;
        }

        private boolean readOperand(int open) {
            int first = sign();
            if (first >= '0' && first <= '9') return readNumber();
            if (nameOf(first) >= 0) {
                at++;
                note(-1 - nameOf(first));
                return true;
            }
            if (first != '(' && first != '!' && first != '-' || open >= MOST_OPEN) return false;
            at++;
            if (first == '(') return readJoined(0, open + 1) && readClosing();
            if (!readOperand(open + 1)) return false;
            note(first == '!' ? -'!' : -MINUS);
            return true;
        }

        private boolean readClosing() {
            if (sign() != ')') return false;
            at++;
            return true;
        }

        private boolean readNumber() {
            int number = 0;
            for (int i = 0; i < MOST_DIGITS && sign() >= '0' && sign() <= '9'; i++) {
                number = number * 10 + sign() - '0';
                at++;
            }
            note(number);
            return true;
        }

        private static int levelOf(int join) {
            switch (join) {
                case '|': return 0;
                case '&': return 1;
                case '<': case '=': case '>': return COMPARING;
                case '+': case '-': return 3;
                case '*': case '/': case '%': return TIGHTEST;
                default: return -1;
            }
        }

        private static int nameOf(int sign) {
            switch (sign) {
                case 'p': return 0;
                case 'w': return 1;
                case 'x': return 2;
                case 'c': return 3;
                case 'n': return 4;
                case 'k': return 5;
                default: return -1;
            }
        }

        int number(int p, int w, int x, int c, int thing, int customer, int next) {
            if (codeLength == 0) return w + x;
            int key = (customer * (MOST_CUSTOMERS + 1) + next + 1) * MOST_THINGS + thing;
            // 0 tells that nothing was asked yet.
            int asking = ((p * 100 + w) * 100 + x) * 100 + c + 1;
            if (key < 0 || key >= ASKS) return 0;
            if (asked[key] != asking) {
                named[0] = p;
                named[1] = w;
                named[2] = x;
                named[3] = c;
                named[4] = thing;
                named[5] = customer;
                answered[key] = workOut();
                asked[key] = asking;
            }
            return answered[key];
        }

        private int workOut() {
            int top = 0;
            boolean skips = false;
            for (int i = 0; i < codeLength && i < code.length; i++) {
                int sign = -code[i];
                if (skips) {
                    skips = sign != ';';
                } else if (sign == ';') {
                    return top > 0 ? pile[top - 1] : 0;
                } else if (sign == '?') {
                    top = Math.max(top - 1, 0);
                    skips = pile[top] == 0;
                } else if (sign <= NAMES) {
                    if (top < pile.length) pile[top++] = sign <= 0 ? -sign : named[sign - 1];
                } else if (sign == '!' || sign == MINUS) {
                    if (top > 0) pile[top - 1] = turned(sign, pile[top - 1]);
                } else if (top > 1) {
                    top--;
                    pile[top - 1] = joined(sign, pile[top - 1], pile[top]);
                }
            }
            return 0;
        }

        private static int turned(int sign, int a) {
            if (sign == MINUS) return -a;
            return a == 0 ? 1 : 0;
        }

        private static int joined(int join, int a, int b) {
            switch (join) {
                case '|': return a != 0 || b != 0 ? 1 : 0;
                case '&': return a != 0 && b != 0 ? 1 : 0;
                case '<': return a < b ? 1 : 0;
                case '=': return a == b ? 1 : 0;
                case '>': return a > b ? 1 : 0;
                case '+': return a + b;
                case '-': return a - b;
                case '*': return a * b;
                case '/': return b == 0 ? 0 : a / b;
                default: return b == 0 ? 0 : a % b;
            }
        }
    }

    /** A day gone through in thought, from the shop as it is, but for what a question changes in it. */
    private static final class Day {
        private final Shop shop;
        private final Law rule;
        final int[] row = new int[MOST_CUSTOMERS];
        final int[] coin = new int[MOST_CUSTOMERS];
        final int[] bought = new int[MOST_CUSTOMERS];
        final int[] gain = new int[MOST_CUSTOMERS];
        private final int[] weight = new int[MOST_THINGS];
        // One moment ahead of each place, so that rows that begin alike share their first visits.
        private final Moment[] ahead = new Moment[MOST_CUSTOMERS + 1];
        int rise, friends, nephewPlace, shown;

        Day(Shop shop, Law rule) {
            this.shop = shop;
            this.rule = rule;
            for (int i = 0; i < ahead.length; i++) ahead[i] = new Moment();
        }

        void begin() {
            System.arraycopy(shop.row, 0, row, 0, MOST_CUSTOMERS);
            System.arraycopy(shop.coin, 0, coin, 0, MOST_CUSTOMERS);
            ahead[0].become(shop.now);
            ahead[0].clearSums();
            rise = shop.rise;
            friends = 0;
            nephewPlace = -1;
            shown = NOTHING;
        }

        Moment start() {
            return ahead[0];
        }

        Moment end() {
            return ahead[shop.customers];
        }

        Moment visitAlone(int place) {
            begin();
            ahead[place].become(ahead[0]);
            goThrough(place, place + 1);
            return ahead[place + 1];
        }

        void goThrough(int from, int end) {
            for (int i = Math.max(from, 0); i < end && i < shop.customers; i++) {
                int customer = row[i];
                int next = i + 1 < shop.customers ? row[i + 1] : NOBODY;
                Moment m = ahead[i + 1];
                m.become(ahead[i]);
                // He leaves THE ROW as it is, so he is none of its places, but comes ahead of one.
                if (i == nephewPlace) m.putDown(shownIf(m), rise);
                int thing = choice(m, customer);
                bought[customer] = thing;
                gain[customer] = thing < 0 ? 0 : shop.wishOf(customer, thing) - m.price[thing];
                if (thing >= 0) {
                    m.sell(thing, gain[customer]);
                } else if (bit(friends, customer) == 1) {
                    m.putDown(shownIf(m), rise);
                } else {
                    weigh(m, customer, next);
                    m.putDown(heaviest(m.there, shop.hands[customer]), rise);
                }
            }
        }

        private int shownIf(Moment m) {
            return shown < 0 ? 0 : m.there & 1 << shown;
        }

        private int choice(Moment m, int customer) {
            int best = NOTHING;
            int most = 0;
            for (int t = 0; t < shop.things; t++) {
                int more = shop.wishOf(customer, t) - m.price[t];
                if (bit(m.left & m.there, t) == 1 && m.price[t] <= coin[customer] && more > most) {
                    best = t;
                    most = more;
                }
            }
            return best;
        }

        private void weigh(Moment m, int customer, int next) {
            int way = shop.way[customer];
            if (next == NOBODY && (way == KIND || way == SPITE)) way = OWN_WISH;
            for (int t = 0; t < shop.things; t++) {
                int own = shop.wishOf(customer, t);
                int nexts = shop.wishOf(next, t);
                switch (way) {
                    case KIND: weight[t] = nexts; break;
                    case SPITE: weight[t] = -nexts; break;
                    case DEAREST: weight[t] = m.price[t]; break;
                    case BY_LAW: weight[t] = rule.number(m.price[t], own, nexts, coin[customer], t, customer, next); break;
                    default: weight[t] = own;
                }
            }
        }

        private int heaviest(int among, int hands) {
            int up = 0;
            for (int hand = 0; hand < hands; hand++) {
                int best = NOTHING;
                for (int t = 0; t < shop.things; t++) {
                    if (bit(among & ~up, t) == 1 && (best == NOTHING || weight[t] > weight[best])) best = t;
                }
                if (best != NOTHING) up |= 1 << best;
            }
            return up;
        }
    }

    /** The questions that are answered by days in thought. */
    private static final class Thought {
        private static final int ALL_ROWS = 5040;

        private final Shop shop;
        final Day day;
        int most;
        final int[] bestRow = new int[MOST_CUSTOMERS];

        Thought(Shop shop, Law rule) {
            this.shop = shop;
            day = new Day(shop, rule);
        }

        void seekRow(int measure) {
            most = -1;
            int from = beginRows();
            for (int i = 0; i < ALL_ROWS && from >= 0; i++) {
                day.goThrough(from, MOST_CUSTOMERS);
                int sum = day.end().sum(measure);
                if (sum > most) {
                    most = sum;
                    System.arraycopy(day.row, 0, bestRow, 0, MOST_CUSTOMERS);
                }
                from = nextRow();
            }
        }

        int rowsWithSuch(int[] told, int n) {
            int such = 0;
            int from = beginRows();
            for (int i = 0; i < ALL_ROWS && from >= 0; i++) {
                day.goThrough(from, MOST_CUSTOMERS);
                if (allBought(told, n)) such++;
                from = nextRow();
            }
            return such;
        }

        private boolean allBought(int[] told, int n) {
            for (int k = 0; k < shop.customers && k < n; k++) {
                if (day.bought[k] != told[k]) return false;
            }
            return true;
        }

        private int beginRows() {
            day.begin();
            for (int i = 0; i < MOST_CUSTOMERS; i++) day.row[i] = i;
            return 0;
        }

        /** Makes the next row by numbers; the first place whose visit is another then, or -1. */
        private int nextRow() {
            int[] row = day.row;
            int n = shop.customers;
            int i = n - 2;
            while (i >= 0 && row[i] > row[i + 1]) i--;
            if (i < 0) return -1;
            int j = n - 1;
            while (j > i + 1 && row[j] < row[i]) j--;
            exchange(row, i, j);
            for (int low = i + 1, high = n - 1; low < high; low++, high--) exchange(row, low, high);
            // The one ahead of the change has another next one.
            return Math.max(i - 1, 0);
        }

        int bestChange(int measure) {
            day.begin();
            day.goThrough(0, MOST_CUSTOMERS);
            most = day.end().sum(measure);
            int best = NOT;
            for (int i = 0; i < shop.customers; i++) {
                for (int j = i + 1; j < shop.customers; j++) {
                    day.begin();
                    exchange(day.row, i, j);
                    day.goThrough(0, MOST_CUSTOMERS);
                    int sum = day.end().sum(measure);
                    if (sum > most) {
                        most = sum;
                        best = 10 * i + j;
                    }
                }
            }
            return best;
        }

        int worthOfPlaceAhead(int customer) {
            int place = shop.placeOf(customer);
            if (place == 0) return 0;
            day.begin();
            day.goThrough(0, MOST_CUSTOMERS);
            int now = day.gain[customer];
            day.begin();
            exchange(day.row, place - 1, place);
            day.goThrough(0, MOST_CUSTOMERS);
            return day.gain[customer] - now;
        }

        int fewestFriends(int customer, int thing) {
            int ahead = 0;
            for (int i = 0; i < shop.placeOf(customer); i++) ahead |= 1 << shop.row[i];
            int best = NOT;
            int fewest = MOST_CUSTOMERS + 1;
            for (int set = 0; set <= ahead; set++) {
                if ((set & ~ahead) != 0 || Integer.bitCount(set) >= fewest) continue;
                day.begin();
                day.friends = set;
                day.shown = thing;
                day.goThrough(0, MOST_CUSTOMERS);
                if (day.bought[customer] == thing) {
                    best = set;
                    fewest = Integer.bitCount(set);
                }
            }
            return best;
        }

        int bestNephew() {
            day.begin();
            day.goThrough(0, MOST_CUSTOMERS);
            most = day.end().paid;
            int best = NOT;
            for (int place = 0; place <= shop.customers; place++) {
                for (int t = 0; t < shop.things; t++) {
                    day.begin();
                    day.nephewPlace = place;
                    day.shown = t;
                    day.goThrough(0, MOST_CUSTOMERS);
                    if (day.end().paid > most) {
                        most = day.end().paid;
                        best = 10 * place + t;
                    }
                }
            }
            return best;
        }

        int bestPrice(int thing) {
            int best = 0;
            most = -1;
            for (int price = 0; price <= MOST_WORTH; price++) {
                day.begin();
                day.start().price[thing] = price;
                day.goThrough(0, MOST_CUSTOMERS);
                if (day.end().paid > most) {
                    most = day.end().paid;
                    best = price;
                }
            }
            return best;
        }

        int leastCoin(int customer) {
            for (int coin = 0; coin <= MOST_WORTH; coin++) {
                day.begin();
                day.coin[customer] = coin;
                day.goThrough(0, MOST_CUSTOMERS);
                if (day.bought[customer] >= 0) return coin;
            }
            return NOT;
        }

        int leastRise() {
            int without = 0;
            for (int rise = 0; rise <= MOST_RISE; rise++) {
                day.begin();
                day.rise = rise;
                day.goThrough(0, MOST_CUSTOMERS);
                if (rise == 0) without = day.end().served;
                else if (day.end().served < without) return rise;
            }
            return NOT;
        }

        int servedByDraws(int seed, int n, int customer) {
            int z = seed;
            int served = 0;
            for (int i = 0; i < n; i++) {
                day.begin();
                z = mix(z);
                day.goThrough(0, MOST_CUSTOMERS);
                if (customer == NOBODY) served += day.end().served;
                else if (day.bought[customer] >= 0) served++;
            }
            return served;
        }

        private int mix(int seed) {
            int z = seed;
            for (int i = shop.customers - 1; i >= 1; i--) {
                z = z * 1103515245 + 12345;
                exchange(day.row, i, (z >>> 8) % (i + 1));
            }
            return z;
        }

        int firstUntrue(int[] told, int n) {
            day.begin();
            day.goThrough(0, MOST_CUSTOMERS);
            for (int i = 0; i < shop.customers && i < n; i++) {
                if (day.bought[shop.row[i]] != told[i]) return i;
            }
            return NOT;
        }
    }

    /** The changes that may be undone, oldest first, and behind them those that may be done again. */
    private static final class Changes {
        private static final int MOST_KEPT = 40;

        int done, undone;
        private final int[] number = new int[MOST_KEPT];
        private final int[] what = new int[MOST_KEPT];
        private final int[] old = new int[MOST_KEPT];
        private final int[] told = new int[MOST_KEPT];

        void add(int itsNumber, int itsWhat, int was, int becomes) {
            if (done >= MOST_KEPT) dropOldest();
            number[done] = itsNumber;
            what[done] = itsWhat;
            old[done] = was;
            told[done] = becomes;
            done++;
            undone = 0;
        }

        private void dropOldest() {
            System.arraycopy(number, 1, number, 0, MOST_KEPT - 1);
            System.arraycopy(what, 1, what, 0, MOST_KEPT - 1);
            System.arraycopy(old, 1, old, 0, MOST_KEPT - 1);
            System.arraycopy(told, 1, told, 0, MOST_KEPT - 1);
            done = MOST_KEPT - 1;
        }

        int layOld(Shop shop) {
            if (done < 1) return STATE;
            done--;
            undone++;
            shop.lay(number[done], what[done], old[done]);
            return done;
        }

        int layNew(Shop shop) {
            if (undone < 1 || done >= MOST_KEPT) return STATE;
            shop.lay(number[done], what[done], told[done]);
            done++;
            undone--;
            return undone;
        }
    }

    /** What an image keeps of the shop. */
    private static final class Image {
        boolean isThere;
        private int things, customers, takenIn, been;
        private final Moment now = new Moment();
        private final int[] coin = new int[MOST_CUSTOMERS];
        private final int[] row = new int[MOST_CUSTOMERS];

        int take(Shop shop) {
            isThere = true;
            things = shop.things;
            customers = shop.customers;
            takenIn = shop.takenIn;
            been = shop.been;
            now.become(shop.now);
            System.arraycopy(shop.coin, 0, coin, 0, MOST_CUSTOMERS);
            System.arraycopy(shop.row, 0, row, 0, MOST_CUSTOMERS);
            return customers;
        }

        int layBack(Shop shop) {
            int known = (1 << customers) - 1;
            int knownThings = (1 << things) - 1;
            shop.takenIn = takenIn;
            shop.been = shop.been & ~known | been;
            shop.now.there = shop.now.there & ~knownThings | now.there;
            shop.now.left = now.left;
            System.arraycopy(now.price, 0, shop.now.price, 0, things);
            System.arraycopy(coin, 0, shop.coin, 0, customers);
            System.arraycopy(row, 0, shop.row, 0, customers);
            for (int i = customers; i < shop.customers; i++) shop.row[i] = i;
            return customers;
        }
    }

    /** The takings and what they do; a body of acts is found by its kind, or by the next kind above. */
    private static final class Acts {
        private static final int KINDS = 8, MOST_BODIES = 50, MOST_TRACED = 24, ACTS = 4, DEEPEST = 40;
        private static final int TAKES = 0, BUYS = 1, PUTS = 2, TELLS = 3;
        private static final int[] ABOVE = {-1, 0, 0, 2, 1, 3, 0, 4};
        private static final int[] BODY = {
            1, 10, 11, 2,
            20, 0, 0, 0,
            0, 30, 0, 0,
            0, 41, 40, 0,
            0, 0, 50, 0,
            0, 0, 0, 60,
            70, 0, 0, 0,
            0, 80, 0, 81,
        };

        int bodies, ran;
        private int actor;
        private final int[] kinds = new int[MOST_BODIES];
        final int[] traced = new int[MOST_TRACED];

        int add(int kind) {
            if (bodies >= MOST_BODIES) return FULL;
            kinds[bodies] = kind;
            return bodies++;
        }

        int kindOf(int body) {
            return body >= 0 && body < bodies ? kinds[body] : BAD;
        }

        boolean isTraced(int i) {
            return i >= 0 && i < ran && i < MOST_TRACED;
        }

        static boolean isUnder(int kind, int top) {
            int at = kind;
            for (int i = 0; i < KINDS && at >= 0 && at < KINDS; i++) {
                if (at == top) return true;
                at = ABOVE[at];
            }
            return false;
        }

        int begin(int body, int act, int x) {
            ran = 0;
            if (body < 0 || body >= bodies || act < 0 || act >= ACTS) return 0;
            actor = body;
            return own(act, x, 0);
        }

        private int own(int act, int x, int depth) {
            return run(kindOf(actor), act, x, depth);
        }

        private int run(int from, int act, int x, int depth) {
            int kind = from;
            for (int i = 0; i < KINDS && kind > 0 && BODY[kind * ACTS + act] == 0; i++) kind = ABOVE[kind];
            if (kind < 0 || depth > DEEPEST) return 0;
            int body = BODY[kind * ACTS + act];
            if (ran < MOST_TRACED) traced[ran] = body;
            ran++;
            return result(body, ABOVE[kind], x, depth + 1);
        }

        private int result(int body, int above, int x, int depth) {
            switch (body) {
                case 1: return x + actor;
                case 2: return own(BUYS, x, depth) - own(PUTS, 1, depth);
                case 10: return own(TAKES, x, depth) * 2;
                case 11: return x ^ actor;
                case 20: return run(above, TAKES, x, depth) + 3;
                case 30: return -run(above, BUYS, x, depth);
                case 40: return run(above, PUTS, x, depth) * 3;
                case 41: return run(above, BUYS, x + 1, depth);
                case 50: return run(above, PUTS, x, depth) - own(TAKES, 2, depth);
                case 60: return run(above, TELLS, x, depth) ^ 5;
                case 70: return run(above, TAKES, x, depth) * 2;
                case 80: return run(above, BUYS, x, depth) + own(PUTS, 2, depth);
                case 81: return run(above, TELLS, x, depth) - 1;
                default: return 0;
            }
        }
    }

    /** Six shelves; the elements of their rows stand in one array, as longs. */
    private static final class Shelves {
        private static final int HOW_MANY = 6, LONGEST = 60;
        private static final int BYTES = 0, SHORTS = 1, INTS = 2, BOOLEANS = 4, EMPTY = -1, TAKING = 9;

        final int[] sort = {EMPTY, EMPTY, EMPTY, EMPTY, EMPTY, EMPTY};
        final int[] body = new int[HOW_MANY];
        private final int[] size = new int[HOW_MANY];
        private final long[] cells = new long[HOW_MANY * LONGEST];

        boolean isShelf(int shelf) {
            return shelf >= 0 && shelf < HOW_MANY;
        }

        boolean isRow(int shelf) {
            return sort[shelf] >= BYTES && sort[shelf] <= BOOLEANS;
        }

        int refusalOfBytes(int shelf) {
            if (sort[shelf] == EMPTY) return ABSENT;
            return sort[shelf] == BYTES ? 0 : UNLIKE;
        }

        int refusalOfPlace(int shelf, int i) {
            if (sort[shelf] == EMPTY) return ABSENT;
            if (!isRow(shelf)) return UNLIKE;
            return hasPlaces(shelf, i, 1) ? 0 : NO_PLACE;
        }

        int refusalOfPair(int shelf, int other) {
            if (sort[shelf] == EMPTY || sort[other] == EMPTY) return ABSENT;
            return isRow(shelf) && sort[shelf] == sort[other] ? 0 : UNLIKE;
        }

        boolean hasPlaces(int shelf, int i, int n) {
            return i >= 0 && n >= 0 && i <= size[shelf] && n <= size[shelf] - i;
        }

        void hold(int shelf, int itsBody) {
            sort[shelf] = itsBody < 0 ? EMPTY : TAKING;
            body[shelf] = itsBody;
            size[shelf] = 0;
        }

        void holdRow(int shelf, int itsSort, int n) {
            sort[shelf] = itsSort;
            size[shelf] = n;
            for (int i = 0; i < n; i++) cells[shelf * LONGEST + i] = 0;
        }

        void store(int shelf, int i, long v) {
            cells[shelf * LONGEST + i] = lowest(sort[shelf], v);
        }

        private static long lowest(int itsSort, long v) {
            switch (itsSort) {
                case BYTES: return (byte) v;
                case SHORTS: return (short) v;
                case INTS: return (int) v;
                case BOOLEANS: return v != 0 ? 1 : 0;
                default: return v;
            }
        }

        long valueAt(int shelf, int i) {
            return cells[shelf * LONGEST + i];
        }

        void copy(int shelf, int i, int other, int j, int n) {
            System.arraycopy(cells, shelf * LONGEST + i, cells, other * LONGEST + j, n);
        }

        int readInto(int[] told, int shelf) {
            int n = Math.min(size[shelf], told.length);
            for (int i = 0; i < n; i++) told[i] = (int) valueAt(shelf, i);
            return n;
        }
    }
}
