import java.util.Arrays;

/**
 * A language that fell: its FORMS, PEOPLE, STORIES and TEXTS of law, as ../shared/DOC.md tells.
 * Words in capitals are the document's terms.
 */
public final class PerfectFerried {
    public static final int NONE = -1;

    private static final int OTHERS = -2;
    private static final int NO_LAW = -100;

    private static final int MOST_FORMS = 8;
    private static final int MOST_PEOPLE = 6;
    private static final int MOST_STORIES = 4;
    private static final int MOST_TEXTS = 4;
    private static final int MOST_ROWS = 8;
    private static final int MOST_STEPS = 30;
    private static final int MOST_TELLINGS = 30;
    private static final int MOST_BYTES = 300;
    private static final int MOST_CLAUSES = 24;
    private static final int MOST_OPEN = 8;
    private static final int MOST_YEARS = 60;
    private static final int MOST_DRAWS = 40;
    private static final int MOST_LOST_YEARS = 3;
    private static final int LAST_YEAR = 9999;
    private static final int LAST_NUMBER = 9999;
    private static final int LAST_SEED = 9999;
    private static final int LAST_AGE = 99;
    private static final int LAST_BREATH = 99;
    private static final int LAST_LENGTH = 9;
    private static final int LAST_FADES = 10;
    private static final int LAST_LEARNS = 99;
    private static final int FIRST_BREATH = 20;
    private static final int FIRST_X = 271;
    private static final int FARTHEST = 1000000;
    private static final int KINDS = 5;
    private static final int DOINGS = 5;
    private static final int ORDERS = 120;

    private static final int AHEAD = 0;
    private static final int JUST_AHEAD = 1;
    private static final int FIRST_ONE = 2;
    private static final int LAST_ONE = 3;
    private static final int SIDE_BY_SIDE = 4;

    // TOKENS: the words, as WORDS spells them, six places each.
    private static final int FADES = 0;
    private static final int LEARNS = 1;
    private static final int FORM = 2;
    private static final int LENGTH = 3;
    private static final int PERSON = 4;
    private static final int KNOWS = 5;
    private static final int STORY = 6;
    private static final int TEACH = 7;
    private static final int BY = 8;
    private static final int TO = 9;
    private static final int FORGET = 10;
    private static final int TELL = 11;
    private static final int YEAR = 12;
    private static final int KIND = 13;
    private static final int AGE = 14;
    private static final int WHO = 15;
    private static final int BREATH = 16;
    private static final int HALF = 17;
    private static final int KNOWN = 18;
    private static final int IF = 19;
    private static final int THEN = 20;
    private static final int ELSE = 21;
    private static final int END = 22;
    private static final int OR = 23;
    private static final int AND = 24;
    private static final int NOT = 25;
    private static final int ALL_WORDS = 26;
    private static final int WORD_WIDTH = 6;
    private static final String WORDS = "fades learnsform  lengthpersonknows story teach by    to    forgettell  year  kind  age   who   breathhalf  known if    then  else  end   or    and   not   ";

    // TOKENS: the signs, as SIGNS spells them, and what is neither word nor one sign.
    private static final int LESS = 26;
    private static final int MORE = 27;
    private static final int SAME = 28;
    private static final int UNLIKE = 29;
    private static final int PLUS = 30;
    private static final int MINUS = 31;
    private static final int TIMES = 32;
    private static final int OVER = 33;
    private static final int OPEN = 34;
    private static final int CLOSE = 35;
    private static final int STOP = 36;
    private static final String SIGNS = "<>=#+-*/();";
    private static final int AT_MOST = 37;
    private static final int AT_LEAST = 38;
    private static final int NUMBER = 39;
    private static final int NO_MORE = 40;
    private static final int NO_TOKEN = 41;
    private static final int NEGATE = 42;

    // A law's code holds a TOKEN in its low bits, what belongs to it above them.
    private static final int TOKEN_BITS = 6;
    private static final int TOKEN_MASK = 63;
    private static final int STACK = 64;

    private static final int CLAUSE_WIDTH = 4;
    private static final int TELLING_WIDTH = 4;
    private static final int ROW_WIDTH = 3;

    private final Orders orders = new Orders();
    private final World world = new World();
    private final World imaged = new World();
    private final Laws laws = new Laws();
    private final Hand hand = new Hand(world, laws);
    private final Guess guess = new Guess(orders, world.said);
    private final Counsel counsel = new Counsel(world, hand, laws);
    private final int[] tape = new int[MOST_BYTES];
    private final Reader reader = new Reader(tape);
    private int tapeLength = 0;
    private boolean textWasRead = false;
    private int latestFault = 0;
    private int latestPlace = NONE;

    public PerfectFerried() {
    }

    public int form(int kind, int length) {
        return world.tongue.add(kind, length);
    }

    public int person(int age, int forms) {
        return world.addPerson(age, forms);
    }

    public int story(int order) {
        return world.addStory(order);
    }

    public int feed(int a, int b, int c, int d, int e) {
        if (tapeLength > MOST_BYTES - 20) {
            return NONE;
        }
        feedFour(a);
        feedFour(b);
        feedFour(c);
        feedFour(d);
        feedFour(e);
        return tapeLength;
    }

    private void feedFour(int bytes) {
        for (int shift = 24; shift >= 0 && tapeLength < MOST_BYTES; shift -= 8) {
            tape[tapeLength] = (bytes >> shift) & 255;
            tapeLength++;
        }
    }

    public int end(int n) {
        if (n < 0 || n > tapeLength) {
            return NONE;
        }
        tapeLength = n;
        return n;
    }

    public int text() {
        if (world.texts >= MOST_TEXTS) {
            return NONE;
        }
        Text read = reader.read(tapeLength);
        tapeLength = 0;
        textWasRead = true;
        latestFault = reader.fault;
        latestPlace = reader.place;
        return read == null ? NONE : world.addText(read);
    }

    public int fault(int what) {
        if (!textWasRead) {
            return NONE;
        }
        if (what == 0) {
            return latestFault;
        }
        return what == 1 ? latestPlace : NONE;
    }

    public boolean by(int text) {
        if (text != NONE && !world.hasText(text)) {
            return false;
        }
        world.rule = text;
        return true;
    }

    public boolean teach(int form, int from, int to) {
        return hand.teaches(form, from, to, true);
    }

    public boolean forget(int person, int form) {
        return hand.forgets(person, form, true);
    }

    public int tell(int person, int story) {
        return hand.tells(person, story, true);
    }

    public int year(int n) {
        if (n < 1 || n > MOST_YEARS || world.now.year + n > LAST_YEAR) {
            return NONE;
        }
        return hand.passYears(n);
    }

    public int played(int text) {
        Text script = world.textOf(text);
        if (script == null) {
            return OTHERS;
        }
        for (int clause = 0; clause < script.clauses; clause++) {
            if (!hand.plays(script, clause)) {
                return clause;
            }
        }
        return NONE;
    }

    public int ages(int seed, int n) {
        if (seed < 0 || seed > LAST_SEED || n < 1 || n > MOST_DRAWS) {
            return NONE;
        }
        world.addStep();
        world.now.x = seed * 2 + FIRST_X;
        for (int i = 0; i < n; i++) {
            hand.follow(world.now.draw());
        }
        return world.now.year;
    }

    public int undo() {
        return world.takeStepBack();
    }

    public int of(int person, int what) {
        Moment now = world.now;
        if (!now.hasPerson(person)) {
            return NONE;
        }
        switch (what) {
            case 0: return now.age[person];
            case 1: return now.knows[person];
            case 2: return now.breath[person];
            case 3: return world.storiesBy(now.knows[person]);
            default: return NONE;
        }
    }

    public int ofForm(int form, int what) {
        if (!world.tongue.hasForm(form)) {
            return NONE;
        }
        switch (what) {
            case 0: return world.tongue.kind[form];
            case 1: return world.tongue.length[form];
            case 2: return world.now.knowers(form);
            default: return NONE;
        }
    }

    public int law(int person, int form, boolean fades) {
        if (!world.now.hasPerson(person) || !world.tongue.hasForm(form)) {
            return NO_LAW;
        }
        Text rule = world.textOf(world.rule);
        return fades ? laws.fadesBy(rule, world.tongue, world.now, person, form)
            : laws.learnsBy(rule, world.tongue, world.now, person, form);
    }

    public int is(int what) {
        switch (what) {
            case 0: return world.now.year;
            case 1: return world.now.x;
            case 2: return world.now.knownForms();
            case 3: return world.stories;
            default: return OTHERS;
        }
    }

    public int book(int i, int what) {
        if (i == NONE) {
            return world.now.tellings;
        }
        return world.now.written(i, what);
    }

    public int foretold(int n, int person, int what) {
        if (n < 1 || n > MOST_YEARS || !world.now.hasPerson(person) || what < 0 || what > 1) {
            return NONE;
        }
        Moment later = hand.after(n);
        return what == 0 ? later.knows[person] : later.age[person];
    }

    public int order(int i, int at) {
        return orders.doingAt(i, at);
    }

    public int number(int a, int b, int c, int d, int e) {
        return orders.numberOf(a, b, c, d, e);
    }

    public boolean holds(int order, int kind, int a, int b) {
        return isOrder(order) && isSaying(kind, a, b) && orders.isSo(order, kind, a, b);
    }

    public int say(int kind, int a, int b) {
        if (kind == NONE) {
            world.said.clear();
            return 0;
        }
        if (!isSaying(kind, a, b)) {
            return OTHERS;
        }
        return world.said.add(kind, a, b);
    }

    public int could(int i) {
        int many = guess.find();
        if (i == NONE) {
            return many;
        }
        return i < 0 || i >= many ? OTHERS : guess.left[i];
    }

    public int likely(int a, int b, boolean low) {
        if (!isDoing(a) || !isDoing(b) || a == b) {
            return NONE;
        }
        int many = guess.find();
        if (many < 1) {
            return NONE;
        }
        int upper = guess.howManyAhead(a, b);
        int common = (int) commonPart(upper, many);
        return common < 1 ? NONE : (low ? many : upper) / common;
    }

    public int sure(int a) {
        if (!isDoing(a) || guess.find() < 1) {
            return NONE;
        }
        return guess.surelyAhead(a);
    }

    public int ask() {
        return guess.find() < 2 ? NONE : guess.bestQuestion();
    }

    public int least(int forms, int story, boolean sayings) {
        if (!world.tongue.hasForms(forms) || !world.hasStory(story)) {
            return NONE;
        }
        return sayings ? world.tongue.fewestSayings(forms) : world.tongue.leastLength(forms);
    }

    public int blurred(int forms, int story) {
        if (!world.tongue.hasForms(forms) || !world.hasStory(story)) {
            return NONE;
        }
        return world.tongue.ordersLeft(forms);
    }

    public int cover(int person) {
        return world.now.hasPerson(person) ? counsel.toLearn(person) : NONE;
    }

    public int keep() {
        return counsel.toKeep();
    }

    public int both(int p, int q, int story) {
        Moment now = world.now;
        if (!now.hasPerson(p) || !now.hasPerson(q) || !world.hasStory(story)) {
            return NONE;
        }
        return world.tongue.leastLength(now.knows[p] | now.knows[q]);
    }

    public int apart(int order, int other) {
        return isOrder(order) && isOrder(other) ? orders.pairsApart(order, other) : NONE;
    }

    public int middle() {
        int best = NONE;
        int least = 0;
        for (int order = 0; order < ORDERS && world.stories > 0; order++) {
            int sum = 0;
            for (int story = 0; story < world.stories; story++) {
                sum += orders.pairsApart(order, world.storyOrder[story]);
            }
            if (best == NONE || sum < least) {
                best = order;
                least = sum;
            }
        }
        return best;
    }

    public long lost(int form, int n, boolean low) {
        if (!world.tongue.hasForm(form) || n < 1 || n > MOST_LOST_YEARS) {
            return NONE;
        }
        long upper = counsel.waysToLose(form, n);
        long lower = counsel.allWays(form, n);
        long common = commonPart(upper, lower);
        return common < 1 ? NONE : (low ? lower : upper) / common;
    }

    public int heirs(int form) {
        return world.tongue.hasForm(form) ? counsel.heirsTo(form) : NONE;
    }

    public int seen(int person, int fades) {
        if (person == NONE) {
            world.seen.clear();
            return 0;
        }
        if (!world.now.hasPerson(person) || fades < 0 || fades > LAST_FADES) {
            return OTHERS;
        }
        return world.seen.add(person, fades, 0);
    }

    public int whose() {
        return counsel.textsThatFit();
    }

    public int richest() {
        return counsel.knowsMost();
    }

    public int rarest() {
        return counsel.knownLeast();
    }

    public int silent() {
        return counsel.tellNothing();
    }

    public int ledger(int person) {
        if (person != NONE && !world.now.hasPerson(person)) {
            return OTHERS;
        }
        return world.now.toldBy(person);
    }

    public int image() {
        imaged.take(world);
        return world.now.year;
    }

    public int back() {
        world.take(imaged);
        return world.now.year;
    }

    public int about(int what) {
        switch (what) {
            case 0: return world.tongue.forms;
            case 1: return world.now.people;
            case 2: return world.stories;
            case 3: return world.texts;
            case 4: return world.rule;
            case 5: return world.steps;
            case 6: return world.said.count;
            case 7: return world.seen.count;
            case 8: return tapeLength;
            default: return OTHERS;
        }
    }

    private static boolean isOrder(int order) {
        return order >= 0 && order < ORDERS;
    }

    private static boolean isDoing(int doing) {
        return doing >= 0 && doing < DOINGS;
    }

    private static boolean isSaying(int kind, int a, int b) {
        if (kind < 0 || kind >= KINDS || !isDoing(a) || !isDoing(b)) {
            return false;
        }
        boolean ofOne = kind == FIRST_ONE || kind == LAST_ONE;
        return ofOne == (a == b);
    }

    /** What both can be divided by, at most; of 0 and b it is b, so that 0 becomes 0 of 1. */
    private static long commonPart(long a, long b) {
        long big = b;
        long small = a;
        for (int i = 0; i < 200 && small != 0; i++) {
            long rest = big % small;
            big = small;
            small = rest;
        }
        return big;
    }

    /** The ORDERS by number: the DOING at each place, and the place of each DOING. */
    private static final class Orders {
        private final int[] doing = new int[ORDERS * DOINGS];
        private final int[] place = new int[ORDERS * DOINGS];

        Orders() {
            for (int order = 0; order < ORDERS; order++) {
                int used = 0;
                for (int at = 0; at < DOINGS; at++) {
                    int next = freeDoing(used, rankAt(order, at));
                    doing[order * DOINGS + at] = next;
                    place[order * DOINGS + next] = at;
                    used |= 1 << next;
                }
            }
        }

        /** How many DOINGS that are free yet are below the one at this place. */
        private static int rankAt(int order, int at) {
            switch (at) {
                case 0: return order / 24;
                case 1: return order % 24 / 6;
                case 2: return order % 6 / 2;
                case 3: return order % 2;
                default: return 0;
            }
        }

        private static int freeDoing(int used, int rank) {
            int left = rank;
            for (int next = 0; next < DOINGS; next++) {
                if ((used >> next & 1) == 0) {
                    if (left == 0) {
                        return next;
                    }
                    left--;
                }
            }
            return 0;
        }

        int doingAt(int order, int at) {
            return isOrder(order) && at >= 0 && at < DOINGS ? doing[order * DOINGS + at] : NONE;
        }

        int placeOf(int order, int a) {
            return isOrder(order) && isDoing(a) ? place[order * DOINGS + a] : NONE;
        }

        int numberOf(int a, int b, int c, int d, int e) {
            for (int order = 0; order < ORDERS; order++) {
                if (doingAt(order, 0) == a && doingAt(order, 1) == b && doingAt(order, 2) == c
                        && doingAt(order, 3) == d && doingAt(order, 4) == e) {
                    return order;
                }
            }
            return NONE;
        }

        boolean isAhead(int order, int a, int b) {
            return placeOf(order, a) < placeOf(order, b);
        }

        boolean isSo(int order, int kind, int a, int b) {
            int first = placeOf(order, a);
            int second = placeOf(order, b);
            switch (kind) {
                case AHEAD: return first < second;
                case JUST_AHEAD: return first + 1 == second;
                case FIRST_ONE: return first == 0;
                case LAST_ONE: return first == DOINGS - 1;
                case SIDE_BY_SIDE: return first + 1 == second || second + 1 == first;
                default: return false;
            }
        }

        int pairsApart(int order, int other) {
            int pairs = 0;
            for (int a = 0; a < DOINGS; a++) {
                for (int b = a + 1; b < DOINGS; b++) {
                    if (isAhead(order, a, b) != isAhead(other, a, b)) {
                        pairs++;
                    }
                }
            }
            return pairs;
        }
    }

    /** Rows of what was told: SAID (KIND, a, b) and SEEN (PERSON, fades). */
    private static final class Rows {
        int count = 0;
        private final int[] cells = new int[MOST_ROWS * ROW_WIDTH];

        int add(int a, int b, int c) {
            if (count >= MOST_ROWS) {
                return OTHERS;
            }
            int at = count * ROW_WIDTH;
            cells[at] = a;
            cells[at + 1] = b;
            cells[at + 2] = c;
            count++;
            return count;
        }

        int cell(int row, int column) {
            boolean is = row >= 0 && row < count && column >= 0 && column < ROW_WIDTH;
            return is ? cells[row * ROW_WIDTH + column] : NONE;
        }

        void clear() {
            count = 0;
        }

        void take(Rows other) {
            count = other.count;
            System.arraycopy(other.cells, 0, cells, 0, cells.length);
        }
    }

    /** What COULD BE by what was SAID. */
    private static final class Guess {
        final int[] left = new int[ORDERS];
        private int many = 0;
        private final Orders orders;
        private final Rows said;

        Guess(Orders orders, Rows said) {
            this.orders = orders;
            this.said = said;
        }

        /** Finds the ORDERS anew: how many. */
        int find() {
            many = 0;
            for (int order = 0; order < ORDERS; order++) {
                if (fits(order)) {
                    left[many] = order;
                    many++;
                }
            }
            return many;
        }

        private boolean fits(int order) {
            for (int row = 0; row < said.count; row++) {
                if (!orders.isSo(order, said.cell(row, 0), said.cell(row, 1), said.cell(row, 2))) {
                    return false;
                }
            }
            return true;
        }

        int howManyAhead(int a, int b) {
            int ahead = 0;
            for (int i = 0; i < many; i++) {
                if (orders.isAhead(left[i], a, b)) {
                    ahead++;
                }
            }
            return ahead;
        }

        int surelyAhead(int a) {
            int bits = 0;
            for (int b = 0; b < DOINGS; b++) {
                if (b != a && howManyAhead(b, a) == many) {
                    bits |= 1 << b;
                }
            }
            return bits;
        }

        int bestQuestion() {
            int best = NONE;
            int fewest = many + 1;
            for (int a = 0; a < DOINGS; a++) {
                for (int b = a + 1; b < DOINGS; b++) {
                    int ahead = howManyAhead(a, b);
                    int most = Math.max(ahead, many - ahead);
                    if (most < fewest) {
                        fewest = most;
                        best = 10 * a + b;
                    }
                }
            }
            return best;
        }
    }

    /**
     * The FORMS and what can be told by them. Which DOING bears which number does not matter for
     * telling, so all STORIES are as long as each other; just the FORMS decide.
     */
    private static final class Tongue {
        // How many SAYINGS of each KIND tell a STORY, if they are well chosen: digits, KIND 0 first.
        // Each other way has as many or more of each KIND as one of these.
        private static final int[] WAYS = {
            13, 103, 112, 1003, 1012, 1102, 1111, 2002, 2011, 2101,
            2110, 3001, 3010, 3100, 4000, 10004, 10012, 10102, 10111, 11002,
            11011, 11101, 11110, 12001, 12010, 12100, 13000, 20003, 20011, 20101,
            20110, 21001, 21010, 21100, 22000, 30002, 30010, 30100, 31000, 40000
        };

        int forms = 0;
        final int[] kind = new int[MOST_FORMS];
        final int[] length = new int[MOST_FORMS];
        private final int[] price = new int[KINDS];

        int add(int newKind, int newLength) {
            boolean fits = newKind >= 0 && newKind < KINDS && newLength >= 1 && newLength <= LAST_LENGTH;
            if (!fits || forms >= MOST_FORMS) {
                return NONE;
            }
            kind[forms] = newKind;
            length[forms] = newLength;
            forms++;
            return forms - 1;
        }

        boolean hasForm(int form) {
            return form >= 0 && form < forms;
        }

        boolean hasForms(int bits) {
            return bits >= 0 && bits < 1 << forms;
        }

        void take(Tongue other) {
            forms = other.forms;
            System.arraycopy(other.kind, 0, kind, 0, MOST_FORMS);
            System.arraycopy(other.length, 0, length, 0, MOST_FORMS);
        }

        private int kindsOf(int bits) {
            int kinds = 0;
            for (int form = 0; form < forms; form++) {
                if ((bits >> form & 1) == 1) {
                    kinds |= 1 << kind[form];
                }
            }
            return kinds;
        }

        /** BLURRED: how many ORDERS are left when all is said that these FORMS can say. */
        int ordersLeft(int bits) {
            int kinds = kindsOf(bits);
            boolean first = (kinds >> FIRST_ONE & 1) == 1;
            boolean last = (kinds >> LAST_ONE & 1) == 1;
            if ((kinds >> AHEAD & 1) == 1 || (kinds >> JUST_AHEAD & 1) == 1) {
                return 1;
            }
            if ((kinds >> SIDE_BY_SIDE & 1) == 1) {
                return first || last ? 1 : 2;
            }
            if (first && last) {
                return 6;
            }
            return first || last ? 24 : ORDERS;
        }

        boolean canTell(int bits) {
            return ordersLeft(bits) == 1;
        }

        int lengthOf(int bits) {
            int sum = 0;
            for (int form = 0; form < forms; form++) {
                if ((bits >> form & 1) == 1) {
                    sum += length[form];
                }
            }
            return sum;
        }

        int leastLength(int bits) {
            int best = bestWay(bits);
            return best == NONE ? NONE : best / 100;
        }

        int fewestSayings(int bits) {
            int best = bestWay(bits);
            return best == NONE ? NONE : best % 100;
        }

        /** LEAST: 100 times the LENGTH, and how many SAYINGS: so the lowest is the best of both. */
        private int bestWay(int bits) {
            findPrices(bits);
            int best = NONE;
            for (int i = 0; i < WAYS.length; i++) {
                int cost = costOf(WAYS[i]);
                if (cost != NONE && (best == NONE || cost < best)) {
                    best = cost;
                }
            }
            return best;
        }

        private void findPrices(int bits) {
            Arrays.fill(price, 0);
            for (int form = 0; form < forms; form++) {
                int of = kind[form];
                boolean has = (bits >> form & 1) == 1 && of >= 0 && of < KINDS;
                if (has && (price[of] == 0 || length[form] < price[of])) {
                    price[of] = length[form];
                }
            }
        }

        private int costOf(int way) {
            int digits = way;
            int cost = 0;
            for (int of = KINDS - 1; of >= 0; of--) {
                int sayings = digits % 10;
                if (sayings > 0 && price[of] == 0) {
                    return NONE;
                }
                cost += sayings * (100 * price[of] + 1);
                digits /= 10;
            }
            return cost;
        }
    }

    /** All that a STEP can change: PEOPLE, YEAR, X and the BOOK. */
    private static final class Moment {
        int year = 0;
        int x = FIRST_X;
        int people = 0;
        int tellings = 0;
        final int[] age = new int[MOST_PEOPLE];
        final int[] knows = new int[MOST_PEOPLE];
        final int[] breath = new int[MOST_PEOPLE];
        private final int[] book = new int[MOST_TELLINGS * TELLING_WIDTH];

        boolean hasPerson(int person) {
            return person >= 0 && person < people;
        }

        int add(int newAge, int forms) {
            if (people >= MOST_PEOPLE) {
                return NONE;
            }
            age[people] = newAge;
            knows[people] = forms;
            breath[people] = FIRST_BREATH;
            people++;
            return people - 1;
        }

        void take(Moment other) {
            people = other.people;
            goBackTo(other);
        }

        /** PEOPLE told since stay as they are: no STEP that is left has touched them. */
        void goBackTo(Moment other) {
            year = other.year;
            x = other.x;
            tellings = other.tellings;
            System.arraycopy(other.age, 0, age, 0, other.people);
            System.arraycopy(other.knows, 0, knows, 0, other.people);
            System.arraycopy(other.breath, 0, breath, 0, other.people);
            System.arraycopy(other.book, 0, book, 0, other.tellings * TELLING_WIDTH);
        }

        /** What X was; it is another one then. */
        int draw() {
            int drawn = x;
            x = (x * 521 + 401) % 30703;
            return drawn;
        }

        boolean knowsForm(int person, int form) {
            return (knows[person] >> form & 1) == 1;
        }

        int knownForms() {
            int bits = 0;
            for (int person = 0; person < people; person++) {
                bits |= knows[person];
            }
            return bits;
        }

        int knowers(int form) {
            int bits = 0;
            for (int person = 0; person < people; person++) {
                if (form >= 0 && form < MOST_FORMS && knowsForm(person, form)) {
                    bits |= 1 << person;
                }
            }
            return bits;
        }

        void write(int person, int story, int needs) {
            if (tellings >= MOST_TELLINGS) {
                System.arraycopy(book, TELLING_WIDTH, book, 0, (MOST_TELLINGS - 1) * TELLING_WIDTH);
                tellings = MOST_TELLINGS - 1;
            }
            int at = tellings * TELLING_WIDTH;
            book[at] = year;
            book[at + 1] = person;
            book[at + 2] = story;
            book[at + 3] = needs;
            tellings++;
        }

        int written(int telling, int what) {
            boolean is = telling >= 0 && telling < tellings && what >= 0 && what < TELLING_WIDTH;
            return is ? book[telling * TELLING_WIDTH + what] : OTHERS;
        }

        int toldBy(int person) {
            int sum = 0;
            for (int telling = 0; telling < tellings; telling++) {
                if (person == NONE || written(telling, 1) == person) {
                    sum += written(telling, 3);
                }
            }
            return sum;
        }
    }

    /** A TEXT that was read: its CLAUSES, and its laws with each sign behind what it works on. */
    private static final class Text {
        final int clauses;
        final int[] code;
        final int fadesFrom;
        final int fadesTo;
        final int learnsFrom;
        final int learnsTo;
        private final int[] cells;

        Text(int[] cells, int[] code, int fadesFrom, int fadesTo, int learnsFrom, int learnsTo) {
            this.clauses = cells.length / CLAUSE_WIDTH;
            this.cells = cells;
            this.code = code;
            this.fadesFrom = fadesFrom;
            this.fadesTo = fadesTo;
            this.learnsFrom = learnsFrom;
            this.learnsTo = learnsTo;
        }

        /** Of a CLAUSE: its first word (0), its NUMBERS (1 .. 3). */
        int cell(int clause, int column) {
            boolean is = clause >= 0 && clause < clauses && column >= 0 && column < CLAUSE_WIDTH;
            return is ? cells[clause * CLAUSE_WIDTH + column] : NONE;
        }
    }

    /** All that AN IMAGE has. */
    private static final class World {
        final Tongue tongue = new Tongue();
        final Moment now = new Moment();
        final Rows said = new Rows();
        final Rows seen = new Rows();
        int stories = 0;
        final int[] storyOrder = new int[MOST_STORIES];
        int texts = 0;
        int rule = NONE;
        private final Text[] text = new Text[MOST_TEXTS];
        int steps = 0;
        private int eldestStep = 0;
        private final Moment[] ahead = new Moment[MOST_STEPS];

        World() {
            for (int i = 0; i < MOST_STEPS; i++) {
                ahead[i] = new Moment();
            }
        }

        int addPerson(int age, int forms) {
            return age < 0 || age > LAST_AGE || !tongue.hasForms(forms) ? NONE : now.add(age, forms);
        }

        int addStory(int order) {
            if (!isOrder(order) || stories >= MOST_STORIES) {
                return NONE;
            }
            storyOrder[stories] = order;
            stories++;
            return stories - 1;
        }

        int addText(Text read) {
            if (texts >= MOST_TEXTS) {
                return NONE;
            }
            text[texts] = read;
            texts++;
            return texts - 1;
        }

        boolean hasStory(int story) {
            return story >= 0 && story < stories;
        }

        boolean hasText(int number) {
            return number >= 0 && number < texts;
        }

        Text textOf(int number) {
            return hasText(number) ? text[number] : null;
        }

        /** STORIES (bits) that can be told by these FORMS: all or none (see Tongue). */
        int storiesBy(int forms) {
            return tongue.canTell(forms) ? (1 << stories) - 1 : 0;
        }

        /** What comes next can be taken back; the eldest STEP gives way. */
        void addStep() {
            if (steps >= MOST_STEPS) {
                eldestStep = (eldestStep + 1) % MOST_STEPS;
                steps = MOST_STEPS - 1;
            }
            ahead[(eldestStep + steps) % MOST_STEPS].take(now);
            steps++;
        }

        int takeStepBack() {
            if (steps < 1) {
                return NONE;
            }
            steps--;
            now.goBackTo(ahead[(eldestStep + steps) % MOST_STEPS]);
            return steps;
        }

        void take(World other) {
            tongue.take(other.tongue);
            now.take(other.now);
            said.take(other.said);
            seen.take(other.seen);
            stories = other.stories;
            System.arraycopy(other.storyOrder, 0, storyOrder, 0, MOST_STORIES);
            rule = other.rule;
            texts = other.texts;
            for (int i = 0; i < texts; i++) {
                text[i] = other.text[i];
            }
            steps = other.steps;
            eldestStep = other.eldestStep;
            for (int i = 0; i < steps; i++) {
                int at = (eldestStep + i) % MOST_STEPS;
                ahead[at].take(other.ahead[at]);
            }
        }
    }

    /** What fades and learns say. */
    private static final class Laws {
        private final int[] stack = new int[STACK];

        int fadesBy(Text text, Tongue tongue, Moment now, int person, int form) {
            if (text == null || text.fadesFrom == NONE) {
                return now.age[person] / 20;
            }
            int sum = weigh(text, text.fadesFrom, text.fadesTo, tongue, now, person, form);
            return sum < 0 ? 0 : sum > LAST_FADES ? LAST_FADES : sum;
        }

        int learnsBy(Text text, Tongue tongue, Moment now, int person, int form) {
            if (text == null || text.learnsFrom == NONE) {
                return 1;
            }
            int sum = weigh(text, text.learnsFrom, text.learnsTo, tongue, now, person, form);
            return sum < -LAST_LEARNS ? -LAST_LEARNS : sum > LAST_LEARNS ? LAST_LEARNS : sum;
        }

        private int weigh(Text text, int from, int to, Tongue tongue, Moment now, int person, int form) {
            int top = 0;
            int stop = Math.min(to, text.code.length);
            for (int at = from; at < stop; at++) {
                int token = text.code[at] & TOKEN_MASK;
                int with = text.code[at] >> TOKEN_BITS;
                if (token == NUMBER || isName(token)) {
                    if (top < STACK) {
                        stack[top] = token == NUMBER ? with : named(token, tongue, now, person, form);
                        top++;
                    }
                } else if (token == ELSE) {
                    at = Math.max(at, with - 1);
                } else if (top < 1) {
                    return 0;
                } else if (token == THEN) {
                    top--;
                    at = stack[top] == 0 ? Math.max(at, with - 1) : at;
                } else if (token == KNOWN) {
                    stack[top - 1] = Integer.bitCount(now.knowers(stack[top - 1]));
                } else if (token == HALF || token == NEGATE || token == NOT) {
                    stack[top - 1] = ofOne(token, stack[top - 1]);
                } else if (top > 1) {
                    top--;
                    stack[top - 1] = ofTwo(token, stack[top - 1], stack[top]);
                }
            }
            return top < 1 ? 0 : stack[top - 1];
        }

        static boolean isName(int token) {
            return token == YEAR || token == FORM || token == KIND || token == LENGTH
                || token == AGE || token == WHO || token == KNOWS || token == BREATH;
        }

        private static int named(int token, Tongue tongue, Moment now, int person, int form) {
            switch (token) {
                case YEAR: return now.year;
                case FORM: return form;
                case KIND: return tongue.kind[form];
                case LENGTH: return tongue.length[form];
                case AGE: return now.age[person];
                case WHO: return person;
                case KNOWS: return Integer.bitCount(now.knows[person]);
                case BREATH: return now.breath[person];
                default: return 0;
            }
        }

        private static int ofOne(int token, int a) {
            switch (token) {
                case HALF: return a / 2 + a % 2;
                case NEGATE: return -a;
                default: return a == 0 ? 1 : 0;
            }
        }

        private static int ofTwo(int token, int a, int b) {
            long sum = 0;
            switch (token) {
                case PLUS: sum = (long) a + b; break;
                case MINUS: sum = (long) a - b; break;
                case TIMES: sum = (long) a * b; break;
                case OVER: sum = b == 0 ? 0 : a / b; break;
                case LESS: sum = a < b ? 1 : 0; break;
                case MORE: sum = a > b ? 1 : 0; break;
                case AT_MOST: sum = a <= b ? 1 : 0; break;
                case AT_LEAST: sum = a >= b ? 1 : 0; break;
                case SAME: sum = a == b ? 1 : 0; break;
                case UNLIKE: sum = a != b ? 1 : 0; break;
                case OR: sum = a | b; break;
                case AND: sum = a & b; break;
                default: break;
            }
            if (sum > FARTHEST) {
                return FARTHEST;
            }
            return sum < -FARTHEST ? -FARTHEST : (int) sum;
        }
    }

    /** What is done: by hand, by TEXTS, by AGES of draws. */
    private static final class Hand {
        private final World world;
        private final Laws laws;
        private final Moment later = new Moment();

        Hand(World world, Laws laws) {
            this.world = world;
            this.laws = laws;
        }

        boolean canLearn(int form, int to) {
            return !world.now.knowsForm(to, form)
                && laws.learnsBy(world.textOf(world.rule), world.tongue, world.now, to, form) > 0;
        }

        boolean hasBreathToTeach(int form, int from) {
            return world.now.knowsForm(from, form) && world.now.breath[from] >= world.tongue.length[form];
        }

        // Of these three, asStep is false within AGES, which are one STEP in all.

        boolean teaches(int form, int from, int to, boolean asStep) {
            Moment now = world.now;
            if (!world.tongue.hasForm(form) || !now.hasPerson(from) || !now.hasPerson(to)
                    || !hasBreathToTeach(form, from) || !canLearn(form, to)) {
                return false;
            }
            if (asStep) {
                world.addStep();
            }
            now.knows[to] |= 1 << form;
            now.breath[from] -= world.tongue.length[form];
            return true;
        }

        boolean forgets(int person, int form, boolean asStep) {
            Moment now = world.now;
            if (!now.hasPerson(person) || !world.tongue.hasForm(form) || !now.knowsForm(person, form)) {
                return false;
            }
            if (asStep) {
                world.addStep();
            }
            now.knows[person] &= ~(1 << form);
            return true;
        }

        int tells(int person, int story, boolean asStep) {
            Moment now = world.now;
            if (!now.hasPerson(person) || !world.hasStory(story)) {
                return NONE;
            }
            int needs = world.tongue.leastLength(now.knows[person]);
            if (needs == NONE || needs > now.breath[person]) {
                return NONE;
            }
            if (asStep) {
                world.addStep();
            }
            now.breath[person] -= needs;
            now.write(person, story, needs);
            return needs;
        }

        /** Up to so many YEARS, while one can pass: how many FORMS are forgotten. */
        int passYears(int n) {
            int forgotten = 0;
            for (int i = 0; i < n && world.now.year < LAST_YEAR; i++) {
                world.addStep();
                forgotten += passYear(world.now);
            }
            return forgotten;
        }

        private int passYear(Moment now) {
            Text rule = world.textOf(world.rule);
            int forgotten = 0;
            for (int person = 0; person < now.people; person++) {
                for (int form = 0; form < MOST_FORMS; form++) {
                    if (now.knowsForm(person, form)
                            && now.draw() % 10 < laws.fadesBy(rule, world.tongue, now, person, form)) {
                        now.knows[person] &= ~(1 << form);
                        forgotten++;
                    }
                }
                now.age[person] = Math.min(now.age[person] + 1, LAST_AGE);
                now.breath[person] = Math.min(now.breath[person] + 10, LAST_BREATH);
            }
            now.year++;
            return forgotten;
        }

        Moment after(int n) {
            later.take(world.now);
            for (int i = 0; i < n && later.year < LAST_YEAR; i++) {
                passYear(later);
            }
            return later;
        }

        /** What a draw of AGES does, if it can be. */
        void follow(int x) {
            int people = world.now.people;
            int forms = world.tongue.forms;
            int stories = world.stories;
            int person = people > 0 ? x / 6 % people : NONE;
            int form = forms > 0 ? x % forms : NONE;
            switch (x % 6) {
                case 0:
                case 1:
                    teaches(form, person, people > 0 ? x / 5 % people : NONE, false);
                    break;
                case 2:
                    forgets(person, form, false);
                    break;
                case 3:
                    tells(person, stories > 0 ? x % stories : NONE, false);
                    break;
                default:
                    if (world.now.year < LAST_YEAR) {
                        passYear(world.now);
                    }
                    break;
            }
        }

        /** One CLAUSE of a TEXT, as by hand: whether all of it could be (a law always can). */
        boolean plays(Text script, int clause) {
            int a = script.cell(clause, 1);
            int b = script.cell(clause, 2);
            int c = script.cell(clause, 3);
            switch (script.cell(clause, 0)) {
                case FORM: return world.tongue.add(a, b) != NONE;
                case PERSON: return world.addPerson(a, b) != NONE;
                case STORY: return world.addStory(a) != NONE;
                case TEACH: return teaches(a, b, c, true);
                case FORGET: return forgets(b, a, true);
                case TELL: return tells(b, a, true) != NONE;
                case YEAR:
                    boolean canAll = world.now.year + a <= LAST_YEAR;
                    passYears(a);
                    return canAll;
                default: return true;
            }
        }
    }

    /** What is asked of PEOPLE, FORMS and TEXTS together; nothing is changed. */
    private static final class Counsel {
        private final World world;
        private final Hand hand;
        private final Laws laws;

        Counsel(World world, Hand hand, Laws laws) {
            this.world = world;
            this.hand = hand;
            this.laws = laws;
        }

        int toLearn(int person) {
            int known = world.now.knows[person];
            int best = NONE;
            int least = 0;
            for (int set = 0; set < 1 << world.tongue.forms; set++) {
                boolean isWay = (set & known) == 0
                    && (world.stories == 0 || world.tongue.canTell(known | set));
                int cost = 1000 * Integer.bitCount(set) + world.tongue.lengthOf(set);
                if (isWay && (best == NONE || cost < least)) {
                    best = set;
                    least = cost;
                }
            }
            return best;
        }

        /** Whether somebody can tell STORIES without these FORMS. */
        private boolean somebodyTellsWithout(int forms) {
            for (int person = 0; person < world.now.people; person++) {
                if (world.tongue.canTell(world.now.knows[person] & ~forms)) {
                    return true;
                }
            }
            return false;
        }

        int toKeep() {
            if (world.stories == 0 || !somebodyTellsWithout(0)) {
                return 0;
            }
            int bits = 0;
            for (int form = 0; form < world.tongue.forms; form++) {
                if (!somebodyTellsWithout(1 << form)) {
                    bits |= 1 << form;
                }
            }
            return bits;
        }

        int tellNothing() {
            int bits = 0;
            for (int person = 0; person < world.now.people; person++) {
                if (world.storiesBy(world.now.knows[person]) == 0) {
                    bits |= 1 << person;
                }
            }
            return bits;
        }

        /** Of allWays, those in which each that knows the FORM forgets it in n YEARS. */
        long waysToLose(int form, int n) {
            long ways = 1;
            Text rule = world.textOf(world.rule);
            for (int person = 0; person < world.now.people; person++) {
                if (world.now.knowsForm(person, form)) {
                    int odds = laws.fadesBy(rule, world.tongue, world.now, person, form);
                    ways *= power(10, n) - power(10 - odds, n);
                }
            }
            return ways;
        }

        /** At most 10 to the 18th, as PEOPLE are six and YEARS three. */
        long allWays(int form, int n) {
            return power(10, n * Integer.bitCount(world.now.knowers(form)));
        }

        private static long power(int base, int n) {
            long product = 1;
            for (int i = 0; i < n; i++) {
                product *= base;
            }
            return product;
        }

        int heirsTo(int form) {
            boolean taught = false;
            for (int from = 0; from < world.now.people; from++) {
                taught = taught || hand.hasBreathToTeach(form, from);
            }
            int bits = 0;
            for (int to = 0; to < world.now.people && taught; to++) {
                if (hand.canLearn(form, to)) {
                    bits |= 1 << to;
                }
            }
            return bits;
        }

        int textsThatFit() {
            int bits = 0;
            for (int number = 0; number < world.texts; number++) {
                if (fitsAllSeen(world.textOf(number))) {
                    bits |= 1 << number;
                }
            }
            return bits;
        }

        private boolean fitsAllSeen(Text text) {
            Rows seen = world.seen;
            for (int row = 0; row < seen.count; row++) {
                int person = seen.cell(row, 0);
                if (!world.now.hasPerson(person)
                        || laws.fadesBy(text, world.tongue, world.now, person, 0) != seen.cell(row, 1)) {
                    return false;
                }
            }
            return true;
        }

        int knowsMost() {
            int best = NONE;
            int most = 0;
            for (int person = 0; person < world.now.people; person++) {
                int many = Integer.bitCount(world.now.knows[person]);
                if (many > most) {
                    best = person;
                    most = many;
                }
            }
            return best;
        }

        int knownLeast() {
            int best = NONE;
            int fewest = MOST_PEOPLE + 1;
            for (int form = 0; form < world.tongue.forms; form++) {
                int many = Integer.bitCount(world.now.knowers(form));
                if (many > 0 && many < fewest) {
                    best = form;
                    fewest = many;
                }
            }
            return best;
        }
    }

    /** Reads the tape as a TEXT, up to its first FAULT. */
    private static final class Reader {
        int fault = 0;
        int place = NONE;
        private final int[] tape;
        private int length = 0;
        private int at = 0;
        private int start = 0;
        private int token = NO_MORE;
        private int value = 0;
        private boolean inFades = false;
        private int clauses = 0;
        private final int[] cells = new int[MOST_CLAUSES * CLAUSE_WIDTH];
        private int codeLength = 0;
        private final int[] code = new int[MOST_BYTES];
        private int fadesFrom = NONE;
        private int fadesTo = NONE;
        private int learnsFrom = NONE;
        private int learnsTo = NONE;

        Reader(int[] tape) {
            this.tape = tape;
        }

        /** The TEXT of the tape's first bytes; null if it has a FAULT. */
        Text read(int bytes) {
            begin(bytes);
            next();
            for (int i = 0; i <= MOST_CLAUSES && fault == 0 && token != NO_MORE; i++) {
                int wrong = wrongBeginning(token);
                if (wrong != 0) {
                    fail(wrong);
                } else if (token == FADES || token == LEARNS) {
                    readLaw(token);
                } else {
                    readDeed(token);
                }
            }
            if (fault != 0) {
                return null;
            }
            return new Text(Arrays.copyOf(cells, clauses * CLAUSE_WIDTH), Arrays.copyOf(code, codeLength),
                fadesFrom, fadesTo, learnsFrom, learnsTo);
        }

        private void begin(int bytes) {
            fault = 0;
            place = NONE;
            length = Math.min(bytes, tape.length);
            at = 0;
            clauses = 0;
            codeLength = 0;
            fadesFrom = NONE;
            fadesTo = NONE;
            learnsFrom = NONE;
            learnsTo = NONE;
        }

        /** Behind a FAULT no TOKEN fits any more, so that all reading ends. */
        private void fail(int number) {
            if (fault == 0) {
                fault = number;
                place = start;
            }
            token = NO_TOKEN;
        }

        private void next() {
            if (fault != 0) {
                return;
            }
            while (at < length && (tape[at] == ' ' || tape[at] == 10)) {
                at++;
            }
            start = at;
            if (at >= length) {
                token = NO_MORE;
            } else if (isLetter(tape[at])) {
                takeWord();
            } else if (isDigit(tape[at])) {
                takeNumber();
            } else {
                takeSign();
            }
        }

        private static boolean isLetter(int sign) {
            return sign >= 'a' && sign <= 'z' || sign >= 'A' && sign <= 'Z';
        }

        private static boolean isDigit(int sign) {
            return sign >= '0' && sign <= '9';
        }

        private void takeWord() {
            while (at < length && isLetter(tape[at])) {
                at++;
            }
            token = NO_TOKEN;
            for (int word = 0; word < ALL_WORDS && token == NO_TOKEN; word++) {
                if (isSpelt(word)) {
                    token = word;
                }
            }
        }

        private boolean isSpelt(int word) {
            int letters = at - start;
            if (letters > WORD_WIDTH) {
                return false;
            }
            for (int i = 0; i < WORD_WIDTH; i++) {
                int sign = i < letters ? tape[start + i] : ' ';
                if (WORDS.charAt(word * WORD_WIDTH + i) != sign) {
                    return false;
                }
            }
            return true;
        }

        private void takeNumber() {
            value = 0;
            while (at < length && isDigit(tape[at])) {
                value = Math.min(value * 10 + tape[at] - '0', LAST_NUMBER + 1);
                at++;
            }
            token = NUMBER;
        }

        private void takeSign() {
            int which = SIGNS.indexOf((char) tape[at]);
            token = which < 0 ? NO_TOKEN : LESS + which;
            at++;
            if ((token == LESS || token == MORE) && at < length && tape[at] == '=') {
                token = token == LESS ? AT_MOST : AT_LEAST;
                at++;
            }
        }

        private void expect(int wanted) {
            if (token == wanted) {
                next();
            } else {
                fail(1);
            }
        }

        /** A NUMBER from low to high. */
        private int expectNumber(int low, int high) {
            if (token != NUMBER) {
                fail(1);
                return 0;
            }
            if (value < low || value > high) {
                fail(2);
                return 0;
            }
            int read = value;
            next();
            return read;
        }

        /** The FAULT of a TOKEN that a CLAUSE should begin with, the least first; 0 if it has none. */
        private int wrongBeginning(int word) {
            if (word != FADES && word != LEARNS && !isDeed(word)) {
                return 1;
            }
            if (word == FADES && fadesFrom != NONE || word == LEARNS && learnsFrom != NONE) {
                return 4;
            }
            return clauses >= MOST_CLAUSES ? 6 : 0;
        }

        private static boolean isDeed(int word) {
            return word == FORM || word == PERSON || word == STORY || word == TEACH
                || word == FORGET || word == TELL || word == YEAR;
        }

        private void keepClause(int word, int a, int b, int c) {
            if (clauses < MOST_CLAUSES) {
                int cell = clauses * CLAUSE_WIDTH;
                cells[cell] = word;
                cells[cell + 1] = a;
                cells[cell + 2] = b;
                cells[cell + 3] = c;
                clauses++;
            }
        }

        private void readDeed(int word) {
            int a = 0;
            int b = 0;
            int c = 0;
            next();
            switch (word) {
                case FORM:
                    a = expectNumber(0, KINDS - 1);
                    expect(LENGTH);
                    b = expectNumber(1, LAST_LENGTH);
                    break;
                case PERSON:
                    a = expectNumber(0, LAST_AGE);
                    expect(KNOWS);
                    b = expectNumber(0, (1 << MOST_FORMS) - 1);
                    break;
                case STORY:
                    a = expectNumber(0, ORDERS - 1);
                    break;
                case YEAR:
                    a = expectNumber(1, MOST_YEARS);
                    break;
                default:
                    a = expectNumber(0, (word == TELL ? MOST_STORIES : MOST_FORMS) - 1);
                    expect(BY);
                    b = expectNumber(0, MOST_PEOPLE - 1);
                    if (word == TEACH) {
                        expect(TO);
                        c = expectNumber(0, MOST_PEOPLE - 1);
                    }
                    break;
            }
            expect(STOP);
            keepClause(word, a, b, c);
        }

        private void readLaw(int word) {
            int from = codeLength;
            inFades = word == FADES;
            next();
            readSum(0);
            expect(STOP);
            if (inFades) {
                fadesFrom = from;
                fadesTo = codeLength;
            } else {
                learnsFrom = from;
                learnsTo = codeLength;
            }
            keepClause(word, 0, 0, 0);
        }

        /** Puts a TOKEN behind the law's code: its place there. */
        private int put(int what, int with) {
            int put = codeLength;
            if (put < MOST_BYTES) {
                code[put] = what | with << TOKEN_BITS;
                codeLength++;
            }
            return put;
        }

        /** From this place the code goes on here (behind THEN: if what was asked isn't so). */
        private void leapHere(int from) {
            if (from >= 0 && from < codeLength) {
                code[from] = code[from] & TOKEN_MASK | codeLength << TOKEN_BITS;
            }
        }

        // In all that follows, open is how many of ( not half known if - are open around it.

        private void readSum(int open) {
            readProduct(open);
            for (int i = 0; i < MOST_BYTES && (token == PLUS || token == MINUS); i++) {
                int sign = token;
                next();
                readProduct(open);
                put(sign, 0);
            }
        }

        private void readProduct(int open) {
            readOne(open);
            for (int i = 0; i < MOST_BYTES && (token == TIMES || token == OVER); i++) {
                int sign = token;
                next();
                readOne(open);
                put(sign, 0);
            }
        }

        private void readOne(int open) {
            if (token == NUMBER) {
                put(NUMBER, expectNumber(0, LAST_NUMBER));
            } else if (token == BREATH && inFades) {
                fail(5);
            } else if (Laws.isName(token)) {
                put(token, 0);
                next();
            } else if (token == OPEN || token == MINUS || token == HALF || token == KNOWN || token == IF) {
                readInside(open);
            } else {
                fail(1);
            }
        }

        private void readInside(int open) {
            int opener = token;
            if (open >= MOST_OPEN) {
                fail(3);
                return;
            }
            next();
            if (opener == OPEN) {
                readSum(open + 1);
                expect(CLOSE);
            } else if (opener == IF) {
                readIf(open + 1);
            } else {
                readOne(open + 1);
                put(opener == MINUS ? NEGATE : opener, 0);
            }
        }

        private void readIf(int open) {
            readEither(open);
            expect(THEN);
            int then = put(THEN, 0);
            readSum(open);
            expect(ELSE);
            int leap = put(ELSE, 0);
            leapHere(then);
            readSum(open);
            expect(END);
            leapHere(leap);
        }

        private void readEither(int open) {
            readBoth(open);
            for (int i = 0; i < MOST_BYTES && token == OR; i++) {
                next();
                readBoth(open);
                put(OR, 0);
            }
        }

        private void readBoth(int open) {
            readAsk(open);
            for (int i = 0; i < MOST_BYTES && token == AND; i++) {
                next();
                readAsk(open);
                put(AND, 0);
            }
        }

        private void readAsk(int open) {
            if (token == NOT) {
                if (open >= MOST_OPEN) {
                    fail(3);
                    return;
                }
                next();
                readAsk(open + 1);
                put(NOT, 0);
                return;
            }
            readSum(open);
            int sign = token;
            if (sign != LESS && sign != MORE && sign != AT_MOST && sign != AT_LEAST
                    && sign != SAME && sign != UNLIKE) {
                fail(1);
                return;
            }
            next();
            readSum(open);
            put(sign, 0);
        }
    }
}
