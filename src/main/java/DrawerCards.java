/** A catalogue whose index cards wander from drawer to drawer by night; ../shared/DOC.md tells what it promises. */
public final class DrawerCards {
    public static final int NONE = -1000000, BAD = -1000001, STATE = -1000002, FULL = -1000003;

    private static final int FINDING_BASE = -1000010, FAULT_BASE = -1000100;
    private static final int NULL = 1, PLACE = 2, KIND = 3, SIZE = 4, STORE = 5;
    private static final int ROWS = 8, LANES = 3, ITEMS = 40;
    private static final int MOST_DRAWERS = 6, MOST_HELD = 8, MOST_CARDS = 8;
    private static final int KINDS = 6, ROD = 4;
    private static final int ACTS = 24, IMAGES = 2, LAST_NIGHT = 9999;
    private static final int FORETOLD_NIGHTS = 60, WATCHED_NIGHTS = 200, ROD_NIGHTS = 20, TOLD_NIGHTS = 12;
    private static final int MOST_LOOKS = 4, TENTHS = 10, LAST_SEED = 999999;

    private final Row[] rows = new Row[ROWS];
    private final Kind[] kinds = new Kind[KINDS];
    private final Reader reader;
    private final Shelf now = new Shelf();
    private final Shelf[] past = new Shelf[ACTS];
    private final Shelf[] images = new Shelf[IMAGES];
    private final Foretold foretold;
    private final Asking asking = new Asking();
    private int acts;
    private int finding;
    private int latestFault;

    public DrawerCards() {
        for (int i = 0; i < ROWS; i++) rows[i] = new Row();
        for (int i = 0; i < ACTS; i++) past[i] = new Shelf();
        for (int i = 0; i < IMAGES; i++) images[i] = new Shelf();
        kinds[1] = new Free();
        kinds[2] = new Old();
        kinds[3] = new Wild();
        kinds[ROD] = new Rod();
        kinds[5] = new Blank();
        reader = new Reader(kinds);
        foretold = new Foretold(now, kinds);
    }

    // ---- rows

    public int row(int row, int lane, int n) {
        if (!isRow(row) || !within(lane, 0, LANES - 1) || n > ITEMS) return BAD;
        if (n < 0) return find(SIZE);
        rows[row].begin(lane, n);
        return findNothing(n);
    }

    public int set(int row, int i, int v) {
        if (!isRow(row)) return BAD;
        Row items = rows[row];
        if (items.isMissing()) return find(NULL);
        if (!items.reaches(i, 1)) return find(PLACE);
        items.store(i, v);
        return findNothing(items.item(i));
    }

    public int copy(int a, int i, int b, int j, int n) {
        if (!isRow(a) || !isRow(b)) return BAD;
        Row from = rows[a];
        Row to = rows[b];
        if (from.isMissing() || to.isMissing()) return find(NULL);
        if (from.lane != to.lane) return find(STORE);
        if (!from.reaches(i, n) || !to.reaches(j, n)) return find(PLACE);
        to.take(from, i, j, n);
        return findNothing(n);
    }

    public int drop(int row) {
        if (!isRow(row)) return BAD;
        Row items = rows[row];
        if (items.isMissing()) return find(NULL);
        int n = items.length;
        items.end();
        return findNothing(n);
    }

    // ---- catalogues, acts

    public int feed(int letter) {
        if (!within(letter, 0, 255)) return BAD;
        if (reader.isFull()) return FULL;
        return reader.append(letter);
    }

    public int catalogue() {
        reader.readTape();
        if (reader.faultNumber != 0) {
            latestFault = reader.faultNumber;
            return FAULT_BASE - reader.faultPlace;
        }
        now.become(reader.shelf);
        acts = 0;
        return now.cards;
    }

    public int fault() {
        return latestFault;
    }

    public int nights(int n) {
        if (now.isEmpty()) return STATE;
        if (!within(n, 1, ACTS)) return BAD;
        if (now.night + n > LAST_NIGHT) return FULL;
        for (int k = 0; k < n; k++) {
            keepForUndo();
            now.passNight(0);
        }
        return now.mateBits();
    }

    public int put(int card, int drawer) {
        if (!now.hasCard(card) || !now.hasDrawer(drawer)) return BAD;
        int from = now.in[card];
        if (from != drawer && !now.holdsOneMore(drawer)) return STATE;
        keepForUndo();
        now.stand(card, drawer, NONE);
        return from;
    }

    public int turn(int drawer) {
        if (!now.hasDrawer(drawer)) return BAD;
        keepForUndo();
        now.reverse(drawer);
        return now.fill(drawer);
    }

    public int like(int card, int other) {
        if (!now.hasCard(card) || !within(other, 0, MOST_CARDS - 1) || other == card) return BAD;
        keepForUndo();
        int liked = now.likes[card];
        now.likes[card] = other;
        return liked;
    }

    public int undo() {
        if (acts == 0) return STATE;
        acts--;
        now.become(past[acts]);
        return acts;
    }

    public int card(int card, int what) {
        if (!now.hasCard(card)) return BAD;
        switch (what) {
            case 0: return now.in[card];
            case 1: return now.place[card];
            case 2: return now.likes[card];
            case 3: return now.cardAt(now.in[card], now.place[card] - 1);
            default: return BAD;
        }
    }

    public int drawer(int drawer, int what) {
        if (!now.hasDrawer(drawer)) return BAD;
        switch (what) {
            case 0: return now.fill(drawer);
            case 1: return now.cardBits(drawer);
            case 2: return now.cardAt(drawer, 0);
            default: return BAD;
        }
    }

    // ---- foretold

    public int ahead(int card, int d, int what) {
        if (!now.hasCard(card) || !within(d, 0, FORETOLD_NIGHTS) || !within(what, 0, 1)) return BAD;
        return foretold.standing(card, d, what);
    }

    public int found(int card, int drawer) {
        if (!now.hasCard(card) || !now.hasDrawer(drawer)) return BAD;
        return foretold.firstNightIn(card, drawer);
    }

    public int still(int what) {
        if (now.isEmpty()) return STATE;
        if (!within(what, 0, 1)) return BAD;
        return what == 0 ? foretold.firstStill() : foretold.firstRound();
    }

    public int mates() {
        return now.isEmpty() ? STATE : now.mateBits();
    }

    public int rods(int card, int drawer, int n, int what) {
        if (!now.hasCard(card) || !now.hasDrawer(drawer)) return BAD;
        if (!within(n, 1, ROD_NIGHTS) || !within(what, 0, 1)) return BAD;
        int set = foretold.fewestRods(card, drawer, n);
        return set == NONE || what == 1 ? set : Integer.bitCount(set);
    }

    public int tour(int n, int what) {
        if (now.isEmpty()) return STATE;
        if (!within(n, 1, MOST_LOOKS) || !within(what, 0, 1)) return BAD;
        return foretold.bestTour(n, what);
    }

    public int fits(int card, int row, int i, int n, int what) {
        if (!now.hasCard(card) || !isRow(row)) return BAD;
        if (!within(n, 1, TOLD_NIGHTS) || !within(what, 0, 3)) return BAD;
        Row told = rows[row];
        if (told.isMissing()) return find(NULL);
        if (!told.reaches(i, n)) return find(PLACE);
        return findNothing(foretold.fitting(card, told, i, n, what));
    }

    public int asleep(int card, int drawer, int c, int what) {
        if (!now.hasCard(card) || !now.hasDrawer(drawer)) return BAD;
        if (!within(c, 0, TENTHS) || !within(what, 0, 1)) return BAD;
        return foretold.chance(card, drawer, c, what);
    }

    public int drawn(int n, int seed, int what) {
        if (now.isEmpty()) return STATE;
        if (!within(n, 0, FORETOLD_NIGHTS) || !within(seed, 1, LAST_SEED) || !within(what, 0, 1)) return BAD;
        return foretold.years(n, seed, what);
    }

    public int image(int k) {
        if (!within(k, 0, IMAGES - 1)) return BAD;
        if (now.isEmpty()) return STATE;
        images[k].become(now);
        return 1;
    }

    public int restore(int k) {
        if (!within(k, 0, IMAGES - 1)) return BAD;
        if (images[k].isEmpty()) return STATE;
        now.become(images[k]);
        acts = 0;
        return 1;
    }

    // ---- asked

    public int kind(int card) {
        Kind sort = sortOf(card);
        return sort == null ? BAD : sort.number();
    }

    public int as(int card, int kind) {
        Kind sort = sortOf(card);
        if (sort == null || !within(kind, 0, KINDS - 1)) return BAD;
        if (!sort.isOne(kind)) return find(KIND);
        return findNothing(card);
    }

    public int ask(int card, int what) {
        Kind sort = sortOf(card);
        if (sort == null || !within(what, 0, 1)) return BAD;
        asking.start(card, now.likes[card], now.place[card]);
        return what == 0 ? sort.size(asking) : sort.mark(asking);
    }

    public int trace(int i) {
        return asking.begun(i);
    }

    public int count(int what) {
        switch (what) {
            case 0: return rowsThere();
            case 1: return now.drawers;
            case 2: return now.cards;
            case 3: return now.night;
            case 4: return now.holds;
            case 5: return acts;
            case 6: return reader.length;
            case 7: return now.figures();
            default: return BAD;
        }
    }

    public int status() {
        return finding;
    }

    // ---- helpers of the calls

    private static boolean within(int v, int least, int most) {
        return v >= least && v <= most;
    }

    private static boolean isRow(int row) {
        return within(row, 0, ROWS - 1);
    }

    private int find(int number) {
        finding = number;
        return FINDING_BASE - number;
    }

    private int findNothing(int answer) {
        finding = 0;
        return answer;
    }

    private int rowsThere() {
        int there = 0;
        for (int i = 0; i < ROWS; i++) if (!rows[i].isMissing()) there++;
        return there;
    }

    /** Null if there is no such card. */
    private Kind sortOf(int card) {
        return now.hasCard(card) ? now.sort[card] : null;
    }

    private void keepForUndo() {
        if (acts == ACTS) forgetOldest();
        past[acts].become(now);
        acts++;
    }

    /** The oldest one's shelf goes to the end, to be used again: nothing is made anew. */
    private void forgetOldest() {
        Shelf oldest = past[0];
        for (int i = 1; i < ACTS; i++) past[i - 1] = past[i];
        past[ACTS - 1] = oldest;
        acts--;
    }

    /** A row of items; it has no lane while it is missing. */
    private static final class Row {
        private static final int NO_LANE = -1, BYTES = 0, SHORTS = 1;

        private final int[] items = new int[ITEMS];
        private int lane = NO_LANE;
        private int length;

        boolean isMissing() {
            return lane == NO_LANE;
        }

        void begin(int newLane, int n) {
            lane = newLane;
            length = Math.max(0, Math.min(n, ITEMS));
            for (int i = 0; i < ITEMS; i++) items[i] = 0;
        }

        void end() {
            lane = NO_LANE;
            length = 0;
        }

        /** In long, as i and n together may be beyond an int. */
        boolean reaches(int i, int n) {
            return i >= 0 && n >= 0 && (long) i + n <= length;
        }

        int item(int i) {
            return reaches(i, 1) ? items[i] : 0;
        }

        void store(int i, int v) {
            if (!reaches(i, 1)) return;
            items[i] = lane == BYTES ? (byte) v : lane == SHORTS ? (short) v : v;
        }

        void take(Row from, int i, int j, int n) {
            if (!from.reaches(i, n) || !reaches(j, n)) return;
            System.arraycopy(from.items, i, items, j, n);
        }
    }

    /** The tape, and how a catalogue is read from it. */
    private static final class Reader {
        private static final int TAPE = 60, FIGURES = 2;
        // Tokens that are no byte of their own.
        private static final int END = -1, NUMBER = -2, NO_TOKEN = -3;
        private static final int MISPLACED = 1, WRONG_NUMBER = 2, NO_ROOM = 3;

        private final int[] tape = new int[TAPE];
        private final Kind[] kinds;
        private final Shelf shelf = new Shelf();
        private int length;
        private int first;
        private int behind;
        private int token;
        private int value;
        private int faultNumber;
        private int faultPlace;

        Reader(Kind[] kinds) {
            this.kinds = kinds;
        }

        boolean isFull() {
            return length >= TAPE;
        }

        int append(int letter) {
            if (!isFull()) {
                tape[length] = letter;
                length++;
            }
            return length;
        }

        /** The tape is empty then; what was read is in the shelf if there was no fault. */
        void readTape() {
            behind = 0;
            faultNumber = 0;
            // One round more than there are cards, so that the card too many is met.
            boolean goesOn = readLaw();
            for (int k = 0; goesOn && k <= MOST_CARDS; k++) goesOn = readCard() && behind < length;
            length = 0;
        }

        private boolean readLaw() {
            if (!readSign('c') || !readNumber(2, MOST_DRAWERS)) return false;
            int drawers = value;
            if (!readSign(',') || !readNumber(1, MOST_HELD)) return false;
            shelf.begin(drawers, value);
            return readSign(';');
        }

        private boolean readCard() {
            nextToken();
            Kind sort = sortOfLetter();
            if (sort == null) return failWith(MISPLACED);
            int card = shelf.cards;
            if (card >= MOST_CARDS) return failWith(NO_ROOM);
            if (!readNumber(0, shelf.drawers - 1)) return false;
            int drawer = value;
            if (!shelf.holdsOneMore(drawer)) return failWith(WRONG_NUMBER);
            if (!readSign(',') || !readNumber(0, MOST_CARDS - 1)) return false;
            if (value == card) return failWith(WRONG_NUMBER);
            shelf.join(sort, drawer, value);
            return readSign(';');
        }

        private Kind sortOfLetter() {
            for (int k = 1; k < KINDS; k++) {
                if (kinds[k].letter() == token) return kinds[k];
            }
            return null;
        }

        private boolean readSign(char sign) {
            nextToken();
            return token == sign || failWith(MISPLACED);
        }

        private boolean readNumber(int least, int most) {
            nextToken();
            if (token != NUMBER) return failWith(MISPLACED);
            return within(value, least, most) || failWith(WRONG_NUMBER);
        }

        private boolean failWith(int number) {
            faultNumber = number;
            faultPlace = first;
            return false;
        }

        private void nextToken() {
            first = behind;
            if (first >= length) {
                token = END;
                return;
            }
            int letter = tape[first];
            if (isFigure(letter)) {
                takeNumber();
                return;
            }
            behind++;
            boolean stands = within(letter, 'a', 'z') || letter == ',' || letter == ';';
            token = stands ? letter : NO_TOKEN;
        }

        private void takeNumber() {
            value = 0;
            for (; behind < length && isFigure(tape[behind]); behind++) {
                // A run that is too long is no number: only its first figures need be right.
                if (behind - first < FIGURES) value = value * 10 + tape[behind] - '0';
            }
            token = behind - first <= FIGURES ? NUMBER : NO_TOKEN;
        }

        private static boolean isFigure(int letter) {
            return letter >= '0' && letter <= '9';
        }
    }

    /** A catalogue: its law, its cards and where they stand. One without cards is none. */
    private static final class Shelf {
        private static final int NOWHERE = -1;

        private final Kind[] sort = new Kind[MOST_CARDS];
        private final int[] likes = new int[MOST_CARDS];
        private final int[] in = new int[MOST_CARDS];
        private final int[] place = new int[MOST_CARDS];
        private int drawers;
        private int holds;
        private int cards;
        private int night;

        void begin(int newDrawers, int newHolds) {
            drawers = newDrawers;
            holds = newHolds;
            cards = 0;
            night = 0;
        }

        void join(Kind newSort, int drawer, int liked) {
            if (cards >= MOST_CARDS) return;
            sort[cards] = newSort;
            likes[cards] = liked;
            place[cards] = fill(drawer);
            in[cards] = drawer;
            cards++;
        }

        void become(Shelf other) {
            begin(other.drawers, other.holds);
            cards = other.cards;
            night = other.night;
            for (int c = 0; c < MOST_CARDS; c++) {
                sort[c] = other.sort[c];
                likes[c] = other.likes[c];
                in[c] = other.in[c];
                place[c] = other.place[c];
            }
        }

        boolean isEmpty() {
            return cards == 0;
        }

        boolean hasCard(int card) {
            return card >= 0 && card < cards;
        }

        boolean hasDrawer(int drawer) {
            return drawer >= 0 && drawer < drawers;
        }

        int fill(int drawer) {
            int n = 0;
            for (int c = 0; c < cards; c++) if (in[c] == drawer) n++;
            return n;
        }

        boolean holdsOneMore(int drawer) {
            return fill(drawer) < holds;
        }

        int cardBits(int drawer) {
            int bits = 0;
            for (int c = 0; c < cards; c++) if (in[c] == drawer) bits |= 1 << c;
            return bits;
        }

        int cardAt(int drawer, int at) {
            for (int c = 0; c < cards; c++) if (in[c] == drawer && place[c] == at) return c;
            return NONE;
        }

        /** The card that one likes; NONE if there is none of that number. */
        int dear(int card) {
            return hasCard(likes[card]) ? likes[card] : NONE;
        }

        int mateBits() {
            int bits = 0;
            for (int c = 0; c < cards; c++) {
                int dear = dear(c);
                if (dear != NONE && in[dear] == in[c] && place[dear] == place[c] - 1) bits |= 1 << c;
            }
            return bits;
        }

        int figures() {
            int number = 0;
            for (int c = 0; c < cards; c++) number = number * 10 + in[c];
            return number;
        }

        boolean standsAs(Shelf other) {
            for (int c = 0; c < cards; c++) {
                if (in[c] != other.in[c] || place[c] != other.place[c]) return false;
            }
            return true;
        }

        /** The card comes into a drawer, right behind another one there; behind all if that is NONE. */
        void stand(int card, int drawer, int other) {
            for (int c = 0; c < cards; c++) if (in[c] == in[card] && place[c] > place[card]) place[c]--;
            // It must be out of its drawer as the new place is counted: that may be the same drawer.
            in[card] = NOWHERE;
            int to = hasCard(other) ? place[other] + 1 : fill(drawer);
            for (int c = 0; c < cards; c++) if (in[c] == drawer && place[c] >= to) place[c]++;
            in[card] = drawer;
            place[card] = to;
        }

        void changePlaces(int card, int other) {
            int at = place[card];
            place[card] = place[other];
            place[other] = at;
        }

        void reverse(int drawer) {
            int last = fill(drawer) - 1;
            for (int c = 0; c < cards; c++) if (in[c] == drawer) place[c] = last - place[c];
        }

        /** Cards whose bits are in sleepers do not have their turn. */
        void passNight(int sleepers) {
            for (int c = 0; c < cards; c++) {
                Kind kind = sort[c];
                if (kind != null && (sleepers >> c & 1) == 0 && kind.stirs(night)) kind.wander(this, c);
            }
            night++;
        }
    }

    /** What is foretold of the catalogue as it is now, on shelves of its own, so that nothing changes. */
    private static final class Foretold {
        private static final int SORTS = 0, LIKINGS = 1, HOLDINGS = 2;
        private static final long DRAW_FACTOR = 16807, DRAW_DIVISOR = 2147483647;

        private final Shelf now;
        private final Kind[] kinds;
        private final Shelf then = new Shelf();
        private final Shelf before = new Shelf();
        private final int[] seen = new int[MOST_LOOKS * MOST_DRAWERS];

        Foretold(Shelf now, Kind[] kinds) {
            this.now = now;
            this.kinds = kinds;
        }

        int standing(int card, int d, int what) {
            then.become(now);
            for (int k = 0; k < d; k++) then.passNight(0);
            return what == 0 ? then.in[card] : then.place[card];
        }

        int firstNightIn(int card, int drawer) {
            then.become(now);
            for (int k = 0; k <= FORETOLD_NIGHTS; k++) {
                if (then.in[card] == drawer) return k;
                then.passNight(0);
            }
            return NONE;
        }

        int firstStill() {
            then.become(now);
            for (int k = 0; k <= WATCHED_NIGHTS; k++) {
                before.become(then);
                then.passNight(0);
                if (then.standsAs(before)) return k;
            }
            return NONE;
        }

        int firstRound() {
            then.become(now);
            for (int k = 1; k <= WATCHED_NIGHTS; k++) {
                then.passNight(0);
                if (then.standsAs(now)) return k;
            }
            return NONE;
        }

        /** Sets are tried from the least on, so the first one of a size is the least of that size. */
        int fewestRods(int card, int drawer, int n) {
            int best = NONE;
            int fewest = MOST_CARDS + 1;
            int sets = 1 << now.cards;
            for (int set = 0; set < sets; set++) {
                int size = Integer.bitCount(set);
                if (size < fewest && isInWithRods(set, card, drawer, n)) {
                    best = set;
                    fewest = size;
                }
            }
            return best;
        }

        private boolean isInWithRods(int set, int card, int drawer, int n) {
            then.become(now);
            for (int c = 0; c < then.cards; c++) if ((set >> c & 1) != 0) then.sort[c] = kinds[ROD];
            for (int k = 0; k < n; k++) then.passNight(0);
            return then.in[card] == drawer;
        }

        /** Codes count up as the drawers' figures do, so the first best one is the first by these. */
        int bestTour(int n, int what) {
            lookIntoDrawers(n);
            int most = -1;
            int best = 0;
            int codes = 1;
            for (int k = 0; k < n; k++) codes *= now.drawers;
            for (int code = 0; code < codes; code++) {
                int cards = Integer.bitCount(seenOn(code, n));
                if (cards > most) {
                    most = cards;
                    best = code;
                }
            }
            return what == 0 ? most : tourFigures(best, n);
        }

        private void lookIntoDrawers(int n) {
            then.become(now);
            for (int k = 0; k < n; k++) {
                for (int d = 0; d < then.drawers; d++) seen[k * MOST_DRAWERS + d] = then.cardBits(d);
                then.passNight(0);
            }
        }

        private int seenOn(int code, int n) {
            int drawers = Math.max(1, now.drawers);
            int bits = 0;
            int rest = code;
            for (int k = n - 1; k >= 0; k--) {
                bits |= seen[k * MOST_DRAWERS + rest % drawers];
                rest /= drawers;
            }
            return bits;
        }

        private int tourFigures(int code, int n) {
            int drawers = Math.max(1, now.drawers);
            int number = 0;
            int worth = 1;
            int rest = code;
            for (int k = 0; k < n; k++) {
                number += rest % drawers * worth;
                worth *= 10;
                rest /= drawers;
            }
            return number;
        }

        int fitting(int card, Row told, int i, int n, int what) {
            int bits = 0;
            for (int choice = 0; choice <= MOST_HELD; choice++) {
                then.become(now);
                if (suppose(card, what, choice) && goesAsTold(card, told, i, n)) bits |= 1 << choice;
            }
            return bits;
        }

        /** False if there is no such choice. */
        private boolean suppose(int card, int what, int choice) {
            switch (what) {
                case SORTS:
                    if (!within(choice, 1, KINDS - 1)) return false;
                    then.sort[card] = kinds[choice];
                    return true;
                case LIKINGS:
                    if (choice >= MOST_CARDS || choice == card) return false;
                    then.likes[card] = choice;
                    return true;
                case HOLDINGS:
                    then.holds = choice;
                    return choice > 0;
                default:
                    if (!then.hasDrawer(choice)) return false;
                    if (then.in[card] != choice) then.stand(card, choice, NONE);
                    return true;
            }
        }

        private boolean goesAsTold(int card, Row told, int i, int n) {
            for (int k = 0; k < n; k++) {
                then.passNight(0);
                if (then.in[card] != told.item(i + k)) return false;
            }
            return true;
        }

        int chance(int card, int drawer, int c, int what) {
            long above = 0;
            int sets = 1 << now.cards;
            for (int sleepers = 0; sleepers < sets; sleepers++) {
                then.become(now);
                then.passNight(sleepers);
                if (then.in[card] == drawer) above += weight(Integer.bitCount(sleepers), c);
            }
            long below = power(TENTHS, now.cards);
            long shared = Math.max(1, greatestDivisor(above, below));
            return (int) ((what == 0 ? above : below) / shared);
        }

        private long weight(int sleepers, int c) {
            return power(c, sleepers) * power(TENTHS - c, now.cards - sleepers);
        }

        private static long power(int base, int times) {
            long product = 1;
            for (int k = 0; k < times; k++) product *= base;
            return product;
        }

        /** The rests at least halve in two rounds, so a hundred rounds are plenty. */
        private static long greatestDivisor(long a, long b) {
            for (int k = 0; k < 100 && b != 0; k++) {
                long rest = a % b;
                a = b;
                b = rest;
            }
            return a;
        }

        int years(int n, int seed, int what) {
            then.become(now);
            long x = seed;
            int mates = 0;
            for (int k = 0; k < n; k++) {
                x = x * DRAW_FACTOR % DRAW_DIVISOR;
                putDrawn(x);
                then.passNight(0);
                mates += Integer.bitCount(then.mateBits());
            }
            return what == 0 ? then.figures() : mates;
        }

        private void putDrawn(long x) {
            if (then.cards < 1 || then.drawers < 1) return;
            int card = (int) (x % then.cards);
            int drawer = (int) (x % then.drawers);
            if (then.in[card] == drawer || then.holdsOneMore(drawer)) then.stand(card, drawer, NONE);
        }
    }

    /** The card that is asked, and the trace of the bodies that began. */
    private static final class Asking {
        private static final int KEPT = 16;

        private final int[] bodies = new int[KEPT];
        private int length;
        private int card;
        private int liked;
        private int place;

        void start(int newCard, int newLiked, int newPlace) {
            length = 0;
            card = newCard;
            liked = newLiked;
            place = newPlace;
        }

        void begin(int body) {
            if (length >= KEPT) return;
            bodies[length] = body;
            length++;
        }

        int begun(int i) {
            return within(i, 0, length - 1) ? bodies[i] : NONE;
        }
    }

    /** How a card goes, and what it says when it is asked; the cards themselves are told by number. */
    private abstract static class Kind {
        abstract int number();

        abstract char letter();

        abstract void wander(Shelf shelf, int card);

        boolean stirs(int night) {
            return true;
        }

        boolean isOne(int kind) {
            switch (kind) {
                case 0: return true;
                case 1: return this instanceof Free;
                case 2: return this instanceof Old;
                case 3: return this instanceof Wild;
                case ROD: return this instanceof Rod;
                case 5: return this instanceof Blank;
                default: return false;
            }
        }

        int size(Asking asking) {
            asking.begin(10);
            return asking.liked;
        }

        int mark(Asking asking) {
            asking.begin(20);
            return asking.card;
        }
    }

    private static class Free extends Kind {
        int number() {
            return 1;
        }

        char letter() {
            return 'f';
        }

        void wander(Shelf shelf, int card) {
            int dear = shelf.dear(card);
            if (dear == NONE) return;
            int drawer = shelf.in[dear];
            if (drawer != shelf.in[card]) goOver(shelf, card, dear);
            else shelf.stand(card, drawer, dear);
        }

        void goOver(Shelf shelf, int card, int dear) {
            int own = shelf.in[card];
            int beside = shelf.in[dear] > own ? own + 1 : own - 1;
            if (shelf.holdsOneMore(beside)) shelf.stand(card, beside, NONE);
        }

        int size(Asking asking) {
            asking.begin(11);
            return super.size(asking) + mark(asking);
        }

        int mark(Asking asking) {
            asking.begin(21);
            return super.mark(asking) + asking.place;
        }
    }

    private static final class Old extends Free {
        int number() {
            return 2;
        }

        char letter() {
            return 'o';
        }

        boolean stirs(int night) {
            return night % 2 == 0;
        }

        int size(Asking asking) {
            asking.begin(12);
            return -super.size(asking);
        }

        int mark(Asking asking) {
            asking.begin(24);
            return 2 * super.mark(asking);
        }
    }

    private static final class Wild extends Free {
        int number() {
            return 3;
        }

        char letter() {
            return 'w';
        }

        void goOver(Shelf shelf, int card, int dear) {
            int drawer = shelf.in[dear];
            if (shelf.holdsOneMore(drawer)) shelf.stand(card, drawer, dear);
        }

        int mark(Asking asking) {
            asking.begin(22);
            return super.mark(asking) - 1000;
        }
    }

    private static class Rod extends Kind {
        int number() {
            return ROD;
        }

        char letter() {
            return 'r';
        }

        void wander(Shelf shelf, int card) {
            // The rod holds it.
        }

        int size(Asking asking) {
            asking.begin(13);
            return super.size(asking) - 100;
        }

        int mark(Asking asking) {
            asking.begin(23);
            return super.mark(asking) - size(asking);
        }
    }

    private static final class Blank extends Rod {
        int number() {
            return 5;
        }

        char letter() {
            return 'b';
        }

        void wander(Shelf shelf, int card) {
            int ahead = shelf.cardAt(shelf.in[card], shelf.place[card] - 1);
            if (ahead != NONE) shelf.changePlaces(card, ahead);
        }

        int size(Asking asking) {
            asking.begin(14);
            return 2 * super.size(asking);
        }
    }
}
