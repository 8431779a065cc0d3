import java.util.Arrays;

/**
 * A mill that grinds words, as DOC.md promises it.
 *
 * A word is held as one number (five bits a letter, 1 to 26 for a to z, the first letter lowest,
 * zeros behind its end), so that words are compared, joined and cut without making anything.
 */
public final class WordMill {
    public static final int NONE = -1;

    private static final int NOT_THERE = -2;

    private static final int TAPE_ROOM = 2000;
    private static final int TOKEN_ROOM = 400;
    private static final int CLASS_ROOM = 6;
    private static final int STONE_ROOM = 7;
    private static final int WORD_ROOM = 10;
    private static final int PAIR_ROOM = 8;
    private static final int LAND_ROOM = 5;
    private static final int WANT_ROOM = 4;
    private static final int IF_ROOM = 4;
    private static final int OPEN_ROOM = 6;
    private static final int NAME_ROOM = 8;
    private static final int DIGIT_ROOM = 4;
    private static final int PAST_ROOM = 30;
    private static final int SLOT_ROOM = 3;
    private static final int MADE_ROOM = 12;
    private static final int STEP_ROOM = 4;
    private static final int CENTURIES_AT_ONCE = 100;
    private static final int CENTURIES_AHEAD = 300;
    private static final int MOST_COINS = 999;

    private static final int ROOTS = 0;
    private static final int ENDINGS = 1;
    private static final int HEADS = 2;
    private static final int SORTS = 3;
    private static final int SORT_ROOM = 8;
    private static final int PIECE_ROOM = SORTS * SORT_ROOM;

    private static final int WHOLE = 0;
    private static final int GROUND = 1;
    private static final int DIED = 2;

    private static final int SYNTAX = 1;
    private static final int ROOM = 2;
    private static final int TWICE = 3;
    private static final int NAME_FAULT = 4;
    private static final int WRONG = 5;

    /* Kinds of tokens; a sign's kind is its own byte, a quoted word's its place in QUOTED_WORDS from QUOTED on. */
    private static final int END = 0;
    private static final int NO_TOKEN = 1;
    private static final int NAME = 2;
    private static final int INT = 3;
    private static final int QUOTED = 128;
    private static final int QUOTED_COUNT = 24;
    private static final String QUOTED_WORDS =
        "class stone to none after before root ending head word pair land brings seed edge if then else ends heads tons dust turn left ";
    private static final String SIGNS = ";=+-*/<()";
    private static final int CLASS = 128;
    private static final int STONE = 129;
    private static final int TO = 130;
    private static final int NOTHING = 131;
    private static final int AFTER = 132;
    private static final int BEFORE = 133;
    private static final int ROOT = 134;
    private static final int ENDING = 135;
    private static final int HEAD = 136;
    private static final int WORD = 137;
    private static final int PAIR = 138;
    private static final int LAND = 139;
    private static final int BRINGS = 140;
    private static final int SEED = 141;
    private static final int EDGE = 142;
    private static final int IF = 143;
    private static final int THEN = 144;
    private static final int ELSE = 145;
    private static final int ENDS_VAR = 146;
    private static final int LEFT_VAR = 151;
    private static final int VARS = 6;

    /* Where each variable of a law stands among the VARS. */
    private static final int OF_ENDS = 0;
    private static final int OF_HEADS = 1;
    private static final int OF_TONS = 2;
    private static final int OF_DUST = 3;
    private static final int OF_TURN = 4;
    private static final int OF_LEFT = 5;

    private static final int LETTER_BITS = 5;
    private static final int LETTER_MASK = 31;
    private static final int ANY_NEIGHBOUR = -1;
    private static final int EDGE_ALONE = 1;
    /* A one in each letter of a word of eight, and the highest bit of each. */
    private static final long EACH_ONE = 0x842108421L;
    private static final long EACH_TOP = 0x8421084210L;

    private final byte[] tape = new byte[TAPE_ROOM];
    private int tapeSize = 0;
    private int faultPlace = NONE;
    private final Script script = new Script();
    private final Teller teller = new Teller(script);
    private Text told = new Text();
    private Text spare = new Text();
    private final State now = new State();
    private final State ahead = new State();
    private final State[] past = new State[PAST_ROOM];
    private int pastFirst = 0;
    private int pastSize = 0;
    private final State[] slots = new State[SLOT_ROOM];
    private int held = 0;
    private final Ways ways = new Ways();
    private final Made madeWords = new Made();
    private final Sets allSets = new Sets();
    private final Orders allOrders = new Orders();
    private final int[] steps = new int[STEP_ROOM];
    private final int[] row = new int[NAME_ROOM + 1];

    public WordMill() {
        for (int i = 0; i < PAST_ROOM; i++) {
            past[i] = new State();
        }
        for (int i = 0; i < SLOT_ROOM; i++) {
            slots[i] = new State();
        }
        now.begin(told);
    }

    // ---- words as numbers

    private static int sizeOf(long word) {
        int size = 0;
        for (long rest = word; rest != 0 && size < MADE_ROOM; rest >>>= LETTER_BITS) {
            size++;
        }
        return size;
    }

    private static int letterAt(long word, int i) {
        return (int) (word >>> (LETTER_BITS * i)) & LETTER_MASK;
    }

    private static boolean beginsWith(long word, long piece) {
        long mask = (1L << (LETTER_BITS * sizeOf(piece))) - 1;
        return (word & mask) == piece;
    }

    private static long behind(long word, long piece) {
        return word >>> (LETTER_BITS * sizeOf(piece));
    }

    private static int answerOf(long word, int what) {
        if (what < 0 || what > NAME_ROOM) {
            return NONE;
        }
        return what == NAME_ROOM ? sizeOf(word) : letterAt(word, what);
    }

    private static int bitsBelow(int n) {
        return (1 << n) - 1;
    }

    // ---- the tape

    public int feed(int a, int b, int c, int d, int e) {
        if (tapeSize + 20 > TAPE_ROOM) {
            return NONE;
        }
        putBytes(a);
        putBytes(b);
        putBytes(c);
        putBytes(d);
        putBytes(e);
        return tapeSize;
    }

    private void putBytes(int four) {
        for (int shift = 24; shift >= 0; shift -= 8) {
            if (tapeSize < TAPE_ROOM) {
                tape[tapeSize] = (byte) (four >>> shift);
                tapeSize++;
            }
        }
    }

    public int back(int n) {
        if (n < 0 || n > tapeSize) {
            return NONE;
        }
        tapeSize -= n;
        return tapeSize;
    }

    public int read() {
        int size = tapeSize;
        tapeSize = 0;
        script.scan(tape, size);
        int fault = script.check();
        faultPlace = script.faultPlace;
        if (fault == 0) {
            fault = teller.tell(spare);
            faultPlace = teller.faultPlace;
        }
        if (fault == 0) {
            Text old = told;
            told = spare;
            spare = old;
            beginAnew();
        }
        return fault;
    }

    private void beginAnew() {
        now.begin(told);
        forgetPast();
        held = 0;
        madeWords.forget();
        forgetFits();
    }

    private void forgetPast() {
        pastFirst = 0;
        pastSize = 0;
    }

    private void forgetFits() {
        allSets.fresh = false;
        allOrders.fresh = false;
    }

    public int place() {
        return faultPlace;
    }

    // ---- words and stones

    private boolean hasWord(int word) {
        return word >= 0 && word < told.words;
    }

    private boolean hasStone(int stone) {
        return stone >= 0 && stone < told.stones.size;
    }

    private boolean hasPairs(int k) {
        return k >= 0 && k <= told.pairs;
    }

    private long runOf(long word) {
        return stageOf(word, STONE_ROOM);
    }

    /** The word behind the first n stones of the order that are on, or behind all of these if they are fewer. */
    private long stageOf(long word, int n) {
        long left = word;
        int taken = 0;
        for (int p = 0; p < told.stones.size && taken < n; p++) {
            int stone = now.orderOf[p];
            if (now.isTurnedOn(stone)) {
                left = told.stones.take(stone, left);
                taken++;
            }
        }
        return left;
    }

    public int word(int word, int what) {
        return hasWord(word) ? now.tellWord(word, what) : NONE;
    }

    public int run(int word, int what) {
        return hasWord(word) ? answerOf(runOf(now.words[word]), what) : NONE;
    }

    public int stage(int word, int n, int what) {
        if (!hasWord(word) || n < 0 || n > Integer.bitCount(now.on)) {
            return NONE;
        }
        return answerOf(stageOf(now.words[word], n), what);
    }

    public int jams(int word) {
        if (!hasWord(word)) {
            return NONE;
        }
        // A word of nothing stays so: no stone jams what had no letter ahead of it.
        long left = now.words[word];
        for (int p = 0; p < told.stones.size && left != 0; p++) {
            int stone = now.orderOf[p];
            if (now.isTurnedOn(stone)) {
                left = told.stones.take(stone, left);
                if (left == 0) {
                    return stone;
                }
            }
        }
        return NOT_THERE;
    }

    public int way(int word, int i) {
        if (!hasWord(word) || i < NONE) {
            return NONE;
        }
        ways.gather(told.pieces, runOf(now.words[word]));
        if (i == NONE) {
            return ways.size;
        }
        return i < ways.size ? ways.code[i] : NONE;
    }

    public int order(int place) {
        return hasStone(place) ? now.orderOf[place] : NONE;
    }

    public int isOn(int stone) {
        if (!hasStone(stone)) {
            return NONE;
        }
        return now.isTurnedOn(stone) ? 1 : 0;
    }

    // ---- things done

    private void remember() {
        int at = (pastFirst + pastSize) % PAST_ROOM;
        past[at].copy(now);
        if (pastSize < PAST_ROOM) {
            pastSize++;
        } else {
            pastFirst = (pastFirst + 1) % PAST_ROOM;
        }
    }

    public boolean turn(int stone) {
        if (!hasStone(stone)) {
            return false;
        }
        remember();
        now.on ^= 1 << stone;
        forgetFits();
        return true;
    }

    public boolean swap(int place, int other) {
        if (!hasStone(place) || !hasStone(other) || place == other) {
            return false;
        }
        remember();
        int stone = now.orderOf[place];
        now.orderOf[place] = now.orderOf[other];
        now.orderOf[other] = stone;
        forgetFits();
        return true;
    }

    public int grind(int word) {
        if (!hasWord(word)) {
            return NONE;
        }
        if (now.fate[word] != WHOLE) {
            return NOT_THERE;
        }
        remember();
        long ground = runOf(now.words[word]);
        ways.gather(told.pieces, ground);
        int[] vars = told.law.vars;
        Arrays.fill(vars, 0);
        vars[OF_TURN] = now.countFate(told.words, GROUND);
        vars[OF_LEFT] = now.countFate(told.words, WHOLE);
        if (ways.size > 0) {
            takeApart(ways.code[0], vars);
        } else {
            vars[OF_DUST] = sizeOf(ground);
            now.dust += vars[OF_DUST];
        }
        int coins = Math.max(0, Math.min(MOST_COINS, told.law.worth()));
        now.coins += coins;
        now.fate[word] = GROUND;
        return coins;
    }

    private void takeApart(int code, int[] vars) {
        for (int digit = 0; digit < Ways.DIGITS; digit++) {
            int piece = Ways.pieceIn(code, digit);
            if (piece >= 0 && piece < PIECE_ROOM) {
                now.stocks[piece]++;
                vars[OF_TONS] += told.pieces.tons[piece];
                int sort = piece / SORT_ROOM;
                vars[OF_ENDS] += sort == ENDINGS ? 1 : 0;
                vars[OF_HEADS] += sort == HEADS ? 1 : 0;
            }
        }
    }

    public boolean sell(int land) {
        if (land < 0 || land >= told.lands || (now.sold >>> land & 1) != 0 || !canSell(1 << land)) {
            return false;
        }
        remember();
        for (int piece = 0; piece < PIECE_ROOM; piece++) {
            now.stocks[piece] -= told.wants[land * PIECE_ROOM + piece];
        }
        now.coins += told.pays[land];
        now.sold |= 1 << land;
        return true;
    }

    private boolean canSell(int lands) {
        for (int piece = 0; piece < PIECE_ROOM; piece++) {
            if (told.wantedBy(lands, piece) > now.stocks[piece]) {
                return false;
            }
        }
        return true;
    }

    public int centuries(int n) {
        if (n < 0 || n > CENTURIES_AT_ONCE) {
            return NONE;
        }
        if (n > 0) {
            remember();
            now.passCenturies(told, n);
        }
        return now.century;
    }

    public boolean undo() {
        if (pastSize <= 0) {
            return false;
        }
        pastSize--;
        now.copy(past[(pastFirst + pastSize) % PAST_ROOM]);
        forgetFits();
        return true;
    }

    // ---- pieces

    public int stock(int sort, int piece) {
        return told.pieces.has(sort, piece) ? now.stocks[sort * SORT_ROOM + piece] : NONE;
    }

    public int made(int n, int what) {
        if (n < 1 || n > MADE_ROOM || what < 0 || what >= Made.ANSWERS) {
            return NONE;
        }
        return madeWords.tellOf(told.pieces, n, what);
    }

    private void countUses() {
        Arrays.fill(ways.uses, 0);
        for (int w = 0; w < told.words; w++) {
            if (now.fate[w] == WHOLE) {
                ways.gather(told.pieces, runOf(now.words[w]));
                ways.addUses();
            }
        }
    }

    public int mostUsed(int sort, int what) {
        if (sort < 0 || sort >= SORTS || what < 0 || what > 1) {
            return NONE;
        }
        if (told.pieces.size[sort] == 0) {
            return NOT_THERE;
        }
        countUses();
        int best = 0;
        int first = sort * SORT_ROOM;
        for (int piece = 1; piece < told.pieces.size[sort]; piece++) {
            if (ways.uses[first + piece] > ways.uses[first + best]) {
                best = piece;
            }
        }
        return what == 0 ? best : ways.uses[first + best];
    }

    public int lacks(int sort, int piece) {
        if (!told.pieces.has(sort, piece)) {
            return NONE;
        }
        int at = sort * SORT_ROOM + piece;
        int unsold = bitsBelow(told.lands) & ~now.sold;
        return Math.max(0, told.wantedBy(unsold, at) - now.stocks[at]);
    }

    public int sales(int what) {
        if (what < 0 || what > 1) {
            return NONE;
        }
        int best = 0;
        int bestPay = 0;
        for (int lands = 1; lands < 1 << told.lands; lands++) {
            int pay = told.paidBy(lands);
            if (pay > bestPay && (lands & now.sold) == 0 && canSell(lands)) {
                best = lands;
                bestPay = pay;
            }
        }
        return what == 0 ? bestPay : best;
    }

    public int forged() {
        countUses();
        int bits = 0;
        for (int root = 0; root < told.pieces.size[ROOTS]; root++) {
            if (ways.uses[ROOTS * SORT_ROOM + root] == 0) {
                bits |= 1 << root;
            }
        }
        return bits;
    }

    // ---- pairs

    private Sets filledSets() {
        if (!allSets.fresh) {
            allSets.fill(told, now.orderOf);
        }
        return allSets;
    }

    private Orders filledOrders() {
        if (!allOrders.fresh) {
            allOrders.fill(told, now);
        }
        return allOrders;
    }

    public int pair(int pair, boolean other) {
        if (pair < 0 || pair >= told.pairs) {
            return NONE;
        }
        if (other && told.other[pair] == 0) {
            return NOT_THERE;
        }
        long out = runOf(told.in[pair]);
        return out == (other ? told.other[pair] : told.out[pair]) ? 1 : 0;
    }

    public int orders(int k) {
        return hasPairs(k) ? filledOrders().many[k] : NONE;
    }

    public int orderAt(int k, int i) {
        if (!hasPairs(k) || i < 0) {
            return NONE;
        }
        Orders found = filledOrders();
        if (found.many[k] == 0) {
            return NOT_THERE;
        }
        int size = Integer.bitCount(now.on);
        return i < size ? Orders.stoneIn(found.first[k], size, i) : NONE;
    }

    public int swaps(int k) {
        if (!hasPairs(k)) {
            return NONE;
        }
        Orders found = filledOrders();
        return found.many[k] == 0 ? NOT_THERE : found.fewest[k];
    }

    public int sets(int k, boolean other, int what) {
        if (!hasPairs(k) || what < 0 || what > 1) {
            return NONE;
        }
        Sets found = filledSets();
        return what == 0 ? found.countThatFit(k, other) : found.leastThatFits(k, other);
    }

    public int list(int what) {
        if (what < 0 || what > 2) {
            return NONE;
        }
        Sets found = filledSets();
        int set = found.leastList(told);
        if (what == 0) {
            return found.listSum(told, set);
        }
        return what == 1 ? set : bitsBelow(told.pairs) & ~found.rightOf(set, false);
    }

    public int next(int k, int what) {
        if (!hasPairs(k) || what < 0 || what > 1) {
            return NONE;
        }
        Sets found = filledSets();
        int best = NOT_THERE;
        int most = 0;
        for (int p = k; p < told.pairs; p++) {
            int sorts = found.sortsOf(p, k);
            if (sorts > most) {
                best = p;
                most = sorts;
            }
        }
        return what == 0 || best == NOT_THERE ? best : most;
    }

    public int parted(int k) {
        if (!hasPairs(k)) {
            return NONE;
        }
        Sets found = filledSets();
        int here = found.longestStart(k, false, now.orderOf);
        int there = found.longestStart(k, true, now.orderOf);
        return here < 0 || there < 0 ? NOT_THERE : Math.min(here, there);
    }

    public int bestTurn(int what) {
        if (what < 0 || what > 1) {
            return NONE;
        }
        Sets found = filledSets();
        int best = NOT_THERE;
        int most = Integer.bitCount(found.rightOf(now.on, false));
        for (int stone = 0; stone < told.stones.size; stone++) {
            int right = Integer.bitCount(found.rightOf(now.on ^ 1 << stone, false));
            if (right > most) {
                best = stone;
                most = right;
            }
        }
        return what == 0 ? best : most;
    }

    // ---- two words

    public int derived(int word, int other, int i) {
        if (!hasWord(word) || !hasWord(other) || i < NONE) {
            return NONE;
        }
        for (int size = 0; size <= STEP_ROOM; size++) {
            if (leadsTo(told.stones, steps, now.words[word], now.words[other], 0, size)) {
                if (i == NONE) {
                    return size;
                }
                return i < size ? steps[i] : NONE;
            }
        }
        return NOT_THERE;
    }

    /**
     * Whether stones from the given step on, up to the size, take one word to the other. A stone that changes
     * nothing is passed over: without it fewer would do, and fewer have been tried.
     */
    private static boolean leadsTo(Stones stones, int[] steps, long word, long other, int step, int size) {
        if (step >= size || step >= steps.length) {
            return word == other;
        }
        for (int stone = 0; stone < stones.size; stone++) {
            long left = stones.take(stone, word);
            if (left != word) {
                steps[step] = stone;
                if (leadsTo(stones, steps, left, other, step + 1, size)) {
                    return true;
                }
            }
        }
        return false;
    }

    public int apart(int word, int other) {
        if (!hasWord(word) || !hasWord(other)) {
            return NONE;
        }
        long one = now.words[word];
        long two = now.words[other];
        for (int j = 0; j <= NAME_ROOM; j++) {
            row[j] = j;
        }
        for (int i = 0; i < sizeOf(one); i++) {
            int corner = row[0];
            row[0] = i + 1;
            for (int j = 0; j < NAME_ROOM; j++) {
                int changed = corner + (letterAt(one, i) == letterAt(two, j) ? 0 : 1);
                corner = row[j + 1];
                row[j + 1] = Math.min(changed, Math.min(row[j], corner) + 1);
            }
        }
        return row[Math.min(NAME_ROOM, sizeOf(two))];
    }

    public int rhymes(int word, int other) {
        if (!hasWord(word) || !hasWord(other)) {
            return NONE;
        }
        long one = now.words[word];
        long two = now.words[other];
        int oneSize = sizeOf(one);
        int twoSize = sizeOf(two);
        int most = Math.min(oneSize, twoSize);
        for (int i = 0; i < most; i++) {
            if (letterAt(one, oneSize - 1 - i) != letterAt(two, twoSize - 1 - i)) {
                return i;
            }
        }
        return most;
    }

    // ---- centuries that would be

    private static boolean isAhead(int n) {
        return n >= 0 && n <= CENTURIES_AHEAD;
    }

    private State lookAhead(int n) {
        ahead.copy(now);
        ahead.passCenturies(told, n);
        return ahead;
    }

    public int future(int word, int n, int what) {
        return hasWord(word) && isAhead(n) ? lookAhead(n).tellWord(word, what) : NONE;
    }

    public int lives(int word) {
        if (!hasWord(word)) {
            return NONE;
        }
        if (now.fate[word] != WHOLE) {
            return NOT_THERE;
        }
        ahead.copy(now);
        for (int n = 1; n <= CENTURIES_AHEAD; n++) {
            ahead.passCentury(told);
            if (ahead.fate[word] == DIED) {
                return n;
            }
        }
        return NOT_THERE;
    }

    public int left(int n) {
        return isAhead(n) ? lookAhead(n).wholeBits(told.words) : NONE;
    }

    // ---- slots and counts

    public boolean hold(int slot) {
        if (slot < 0 || slot >= SLOT_ROOM) {
            return false;
        }
        slots[slot].copy(now);
        held |= 1 << slot;
        return true;
    }

    public boolean restore(int slot) {
        if (slot < 0 || slot >= SLOT_ROOM || (held >>> slot & 1) == 0) {
            return false;
        }
        now.copy(slots[slot]);
        forgetPast();
        forgetFits();
        return true;
    }

    public int count(int what) {
        switch (what) {
            case 0: return told.words;
            case 1: return told.stones.size;
            case 2: return told.pieces.size[ROOTS];
            case 3: return told.pieces.size[ENDINGS];
            case 4: return told.pieces.size[HEADS];
            case 5: return told.pairs;
            case 6: return told.lands;
            case 7: return now.century;
            case 8: return now.coins;
            case 9: return now.dust;
            case 10: return now.countFate(told.words, WHOLE);
            case 11: return now.sold;
            case 12: return tapeSize;
            case 13: return pastSize;
            case 14: return Integer.bitCount(held);
            case 15: return tonsInStock();
            case 16: return told.classes;
            default: return NONE;
        }
    }

    private int tonsInStock() {
        int sum = 0;
        for (int piece = 0; piece < PIECE_ROOM; piece++) {
            sum += now.stocks[piece] * told.pieces.tons[piece];
        }
        return sum;
    }

    // ---- what texts tell

    /** The stones as told; a neighbour is told by a bit for each letter, bit 0 standing for the edge. */
    private static final class Stones {
        int size = 0;
        final int[] from = new int[STONE_ROOM];
        final int[] into = new int[STONE_ROOM];
        final int[] after = new int[STONE_ROOM];
        final int[] before = new int[STONE_ROOM];

        void add(int letter, int other, int ahead, int following) {
            if (size < STONE_ROOM) {
                from[size] = letter;
                into[size] = other;
                after[size] = ahead;
                before[size] = following;
                size++;
            }
        }

        long take(int stone, long word) {
            if (stone < 0 || stone >= size || !hasLetter(word, from[stone])) {
                return word;
            }
            long result = 0;
            int put = 0;
            int ahead = 0;
            for (int i = 0; i < NAME_ROOM; i++) {
                int letter = letterAt(word, i);
                if (letter == 0) {
                    break;
                }
                int comes = letter;
                if (letter == from[stone] && (after[stone] >>> ahead & 1) != 0
                        && (before[stone] >>> letterAt(word, i + 1) & 1) != 0) {
                    comes = into[stone];
                }
                if (comes != 0) {
                    result |= (long) comes << put;
                    put += LETTER_BITS;
                }
                ahead = letter;
            }
            return result;
        }

        /** Most stones find no place in most words: that is seen here for all eight letters at once. */
        private static boolean hasLetter(long word, int letter) {
            long unlike = word ^ letter * EACH_ONE;
            return ((unlike - EACH_ONE) & ~unlike & EACH_TOP) != 0;
        }
    }

    /** The roots, endings and heads: piece p of sort s stands at s * SORT_ROOM + p. */
    private static final class Pieces {
        final int[] size = new int[SORTS];
        final long[] name = new long[PIECE_ROOM];
        final int[] tons = new int[PIECE_ROOM];

        static int roomOf(int sort) {
            return sort == ROOTS ? 8 : sort == ENDINGS ? 6 : 4;
        }

        boolean has(int sort, int piece) {
            return sort >= 0 && sort < SORTS && piece >= 0 && piece < size[sort];
        }

        void add(int sort, long letters, int weight) {
            if (sort >= 0 && sort < SORTS && size[sort] < roomOf(sort)) {
                int at = sort * SORT_ROOM + size[sort];
                name[at] = letters;
                tons[at] = weight;
                size[sort]++;
            }
        }

        int find(int sort, long letters) {
            for (int p = 0; p < size[sort]; p++) {
                if (name[sort * SORT_ROOM + p] == letters) {
                    return sort * SORT_ROOM + p;
                }
            }
            return NONE;
        }

        int findInAll(long letters) {
            for (int sort = 0; sort < SORTS; sort++) {
                int found = find(sort, letters);
                if (found != NONE) {
                    return found;
                }
            }
            return NONE;
        }

        void clear() {
            Arrays.fill(size, 0);
        }
    }

    /** All that a text tells. */
    private static final class Text {
        int classes = 0;
        final long[] className = new long[CLASS_ROOM];
        final int[] classLetters = new int[CLASS_ROOM];
        final Stones stones = new Stones();
        final Pieces pieces = new Pieces();
        int words = 0;
        final long[] word = new long[WORD_ROOM];
        int pairs = 0;
        final long[] in = new long[PAIR_ROOM];
        final long[] out = new long[PAIR_ROOM];
        final long[] other = new long[PAIR_ROOM];
        int lands = 0;
        final int[] pays = new int[LAND_ROOM];
        final int[] wants = new int[LAND_ROOM * PIECE_ROOM];
        final Law law = new Law();
        int seed = 0;

        void clear() {
            classes = 0;
            stones.size = 0;
            pieces.clear();
            words = 0;
            pairs = 0;
            lands = 0;
            Arrays.fill(wants, 0);
            law.clear();
            seed = 0;
        }

        int findClass(long name) {
            for (int c = 0; c < classes; c++) {
                if (className[c] == name) {
                    return c;
                }
            }
            return NONE;
        }

        int wantedBy(int landBits, int piece) {
            int sum = 0;
            for (int land = 0; land < lands; land++) {
                if ((landBits >>> land & 1) != 0) {
                    sum += wants[land * PIECE_ROOM + piece];
                }
            }
            return sum;
        }

        int paidBy(int landBits) {
            int sum = 0;
            for (int land = 0; land < lands; land++) {
                if ((landBits >>> land & 1) != 0) {
                    sum += pays[land];
                }
            }
            return sum;
        }
    }

    /** The tokens of a text, and whether they follow its grammar. */
    private static final class Script {
        int size = 0;
        final int[] kind = new int[TOKEN_ROOM + 2];
        final int[] start = new int[TOKEN_ROOM + 2];
        final long[] value = new long[TOKEN_ROOM + 2];
        int fault = 0;
        int faultPlace = NONE;
        private final long[] quoted = new long[QUOTED_COUNT];
        private int at = 0;
        private final int[] toldOf = new int[QUOTED_COUNT];

        Script() {
            int index = 0;
            int put = 0;
            for (int i = 0; i < QUOTED_WORDS.length() && index < QUOTED_COUNT; i++) {
                char c = QUOTED_WORDS.charAt(i);
                if (c == ' ') {
                    index++;
                    put = 0;
                } else {
                    quoted[index] |= (long) (c - 'a' + 1) << put;
                    put += LETTER_BITS;
                }
            }
        }

        int kindAt(int i) {
            return i >= 0 && i < size ? kind[i] : END;
        }

        long valueAt(int i) {
            return i >= 0 && i < size ? value[i] : 0;
        }

        int startAt(int i) {
            return i >= 0 && i < size ? start[i] : 0;
        }

        /** One token more than there is room for is looked at, for it may be a fault of another kind. */
        void scan(byte[] tape, int length) {
            size = 0;
            int from = 0;
            for (int n = 0; n <= TOKEN_ROOM; n++) {
                from = skipBlanks(tape, length, from);
                if (from >= length) {
                    break;
                }
                from = scanToken(tape, length, from);
            }
            put(END, length, 0);
        }

        private void put(int tokenKind, int place, long tokenValue) {
            if (size < kind.length) {
                kind[size] = tokenKind;
                start[size] = place;
                value[size] = tokenValue;
                size++;
            }
        }

        private static int skipBlanks(byte[] tape, int length, int from) {
            int i = from;
            while (i < length && (tape[i] == 9 || tape[i] == 10 || tape[i] == 13 || tape[i] == 32)) {
                i++;
            }
            return i;
        }

        private int scanToken(byte[] tape, int length, int from) {
            if (isLetter(tape[from])) {
                return scanName(tape, length, from);
            }
            if (isDigit(tape[from])) {
                return scanInt(tape, length, from);
            }
            boolean sign = tape[from] > 0 && SIGNS.indexOf((char) tape[from]) >= 0;
            put(sign ? tape[from] : NO_TOKEN, from, 0);
            return from + 1;
        }

        private static boolean isLetter(byte b) {
            return b >= 'a' && b <= 'z';
        }

        private static boolean isDigit(byte b) {
            return b >= '0' && b <= '9';
        }

        private int scanName(byte[] tape, int length, int from) {
            long name = 0;
            int i = from;
            while (i < length && isLetter(tape[i])) {
                if (i - from < NAME_ROOM) {
                    name |= (long) (tape[i] - 'a' + 1) << (LETTER_BITS * (i - from));
                }
                i++;
            }
            put(i - from > NAME_ROOM ? NO_TOKEN : kindOfName(name), from, name);
            return i;
        }

        private int kindOfName(long name) {
            for (int q = 0; q < QUOTED_COUNT; q++) {
                if (quoted[q] == name) {
                    return QUOTED + q;
                }
            }
            return NAME;
        }

        private int scanInt(byte[] tape, int length, int from) {
            int number = 0;
            int i = from;
            while (i < length && isDigit(tape[i])) {
                if (i - from < DIGIT_ROOM) {
                    number = number * 10 + tape[i] - '0';
                }
                i++;
            }
            put(i - from > DIGIT_ROOM ? NO_TOKEN : INT, from, number);
            return i;
        }

        /** The number of the first fault of syntax or room, or 0. */
        int check() {
            fault = 0;
            faultPlace = NONE;
            at = 0;
            Arrays.fill(toldOf, 0);
            for (int tells = 0; tells <= TOKEN_ROOM && kindAt(at) != END; tells++) {
                if (!dueTell()) {
                    break;
                }
            }
            return fault;
        }

        private boolean fail(int number) {
            fault = number;
            faultPlace = startAt(at);
            return false;
        }

        private boolean due(int tokenKind) {
            if (kindAt(at) != tokenKind) {
                return fail(SYNTAX);
            }
            if (at >= TOKEN_ROOM) {
                return fail(ROOM);
            }
            at++;
            return true;
        }

        /** The first token of a tell, of which there may be no more than so many. */
        private boolean dueFirst(int tokenKind, int most) {
            int sort = tokenKind - QUOTED;
            if (sort >= 0 && sort < QUOTED_COUNT) {
                toldOf[sort]++;
                if (toldOf[sort] > most) {
                    return fail(ROOM);
                }
            }
            return due(tokenKind);
        }

        private boolean dueTell() {
            switch (kindAt(at)) {
                case CLASS: return dueFirst(CLASS, CLASS_ROOM) && due(NAME) && due(NAME) && due(';');
                case STONE: return dueFirst(STONE, STONE_ROOM) && dueStone() && due(';');
                case ROOT: return dueFirst(ROOT, Pieces.roomOf(ROOTS)) && due(NAME) && due(INT) && due(';');
                case ENDING: return dueFirst(ENDING, Pieces.roomOf(ENDINGS)) && due(NAME) && due(INT) && due(';');
                case HEAD: return dueFirst(HEAD, Pieces.roomOf(HEADS)) && due(NAME) && due(INT) && due(';');
                case WORD: return dueFirst(WORD, WORD_ROOM) && due(NAME) && due(';');
                case PAIR: return dueFirst(PAIR, PAIR_ROOM) && due(NAME) && due(NAME)
                    && (kindAt(at) != NAME || due(NAME)) && due(';');
                case LAND: return dueFirst(LAND, LAND_ROOM) && due(INT) && dueWants() && due(';');
                case BRINGS: return due(BRINGS) && dueLaw() && due(';');
                case SEED: return due(SEED) && due(INT) && due(';');
                default: return fail(SYNTAX);
            }
        }

        private boolean dueStone() {
            return due(NAME) && due(TO) && due(kindAt(at) == NOTHING ? NOTHING : NAME)
                && (kindAt(at) != AFTER || due(AFTER) && dueNeighbour())
                && (kindAt(at) != BEFORE || due(BEFORE) && dueNeighbour());
        }

        private boolean dueNeighbour() {
            return due(kindAt(at) == EDGE ? EDGE : NAME);
        }

        private boolean dueWants() {
            for (int n = 0; n <= WANT_ROOM && kindAt(at) == NAME; n++) {
                if (n == WANT_ROOM) {
                    return fail(ROOM);
                }
                if (!due(NAME) || !due(INT)) {
                    return false;
                }
            }
            return true;
        }

        private boolean dueLaw() {
            if (!due('=')) {
                return false;
            }
            for (int ifs = 0; ifs <= IF_ROOM && kindAt(at) == IF; ifs++) {
                if (ifs == IF_ROOM) {
                    return fail(ROOM);
                }
                if (!(due(IF) && dueSum() && due('<') && dueSum() && due(THEN) && dueSum() && due(ELSE))) {
                    return false;
                }
            }
            return dueSum();
        }

        /** An E of the grammar, all its brackets in one loop: units and signs take turns. */
        private boolean dueSum() {
            int open = 0;
            boolean unitDue = true;
            for (int n = 0; n <= TOKEN_ROOM; n++) {
                int here = kindAt(at);
                if (unitDue && here == '(') {
                    open++;
                    if (open > OPEN_ROOM) {
                        return fail(ROOM);
                    }
                } else if (unitDue) {
                    if (here != INT && !isVar(here)) {
                        return fail(SYNTAX);
                    }
                    unitDue = false;
                } else if (here == '+' || here == '-' || here == '*' || here == '/') {
                    unitDue = true;
                } else if (open == 0) {
                    return true;
                } else if (here == ')') {
                    open--;
                } else {
                    return fail(SYNTAX);
                }
                if (!due(here)) {
                    return false;
                }
            }
            return true;
        }

        static boolean isVar(int tokenKind) {
            return tokenKind >= ENDS_VAR && tokenKind <= LEFT_VAR;
        }
    }

    /** Fills a text from tokens that follow the grammar, up to the first fault of what they say. */
    private static final class Teller {
        int fault = 0;
        int faultPlace = NONE;
        private final Script script;
        private int at = 0;

        Teller(Script tokens) {
            script = tokens;
        }

        int tell(Text text) {
            at = 0;
            fault = 0;
            faultPlace = NONE;
            text.clear();
            for (int tells = 0; tells <= TOKEN_ROOM && fault == 0 && kindHere() != END; tells++) {
                tellOne(text);
                at++;
            }
            return fault;
        }

        private int kindHere() {
            return script.kindAt(at);
        }

        private int kindBehind() {
            return script.kindAt(at + 1);
        }

        private void fail(int number) {
            if (fault == 0) {
                fault = number;
                faultPlace = script.startAt(at);
            }
        }

        private long name() {
            at++;
            return script.valueAt(at);
        }

        private int number(int least, int most) {
            at++;
            int number = (int) script.valueAt(at);
            if (number < least || number > most) {
                fail(WRONG);
            }
            return number;
        }

        /** Ends at the tell's last token. */
        private void tellOne(Text text) {
            switch (kindHere()) {
                case CLASS: tellClass(text); break;
                case STONE: tellStone(text); break;
                case ROOT: tellPiece(text, ROOTS); break;
                case ENDING: tellPiece(text, ENDINGS); break;
                case HEAD: tellPiece(text, HEADS); break;
                case WORD: tellWord(text); break;
                case PAIR: tellPair(text); break;
                case LAND: tellLand(text); break;
                case BRINGS: tellLaw(text); break;
                default: text.seed = number(0, 9999); break;
            }
            at++;
        }

        private void tellClass(Text text) {
            long name = name();
            if (sizeOf(name) < 2) {
                fail(WRONG);
            } else if (text.findClass(name) != NONE) {
                fail(TWICE);
            }
            long letters = name();
            int bits = 0;
            for (int i = 0; i < sizeOf(letters); i++) {
                bits |= 1 << letterAt(letters, i);
            }
            if (text.classes < CLASS_ROOM) {
                text.className[text.classes] = name;
                text.classLetters[text.classes] = bits;
                text.classes++;
            }
        }

        private int letter() {
            long name = name();
            if (sizeOf(name) > 1) {
                fail(WRONG);
            }
            return letterAt(name, 0);
        }

        private void tellStone(Text text) {
            int from = letter();
            at++;
            int into = letterOrNothing();
            int after = neighbour(text, AFTER);
            int before = neighbour(text, BEFORE);
            text.stones.add(from, into, after, before);
        }

        private int letterOrNothing() {
            if (kindBehind() == NOTHING) {
                at++;
                return 0;
            }
            return letter();
        }

        private int neighbour(Text text, int side) {
            if (kindBehind() != side) {
                return ANY_NEIGHBOUR;
            }
            at++;
            long name = name();
            if (kindHere() == EDGE) {
                return EDGE_ALONE;
            }
            if (sizeOf(name) == 1) {
                return 1 << letterAt(name, 0);
            }
            int found = text.findClass(name);
            if (found < 0 || found >= CLASS_ROOM) {
                fail(NAME_FAULT);
                return 0;
            }
            return text.classLetters[found];
        }

        private void tellPiece(Text text, int sort) {
            long name = name();
            if (text.pieces.find(sort, name) != NONE) {
                fail(TWICE);
            }
            int tons = number(1, 9);
            text.pieces.add(sort, name, tons);
        }

        private void tellWord(Text text) {
            long name = name();
            if (text.words < WORD_ROOM) {
                text.word[text.words] = name;
                text.words++;
            }
        }

        private void tellPair(Text text) {
            long in = name();
            long out = name();
            long other = kindBehind() == NAME ? name() : 0;
            if (text.pairs < PAIR_ROOM) {
                text.in[text.pairs] = in;
                text.out[text.pairs] = out;
                text.other[text.pairs] = other;
                text.pairs++;
            }
        }

        private void tellLand(Text text) {
            int pays = number(0, 999);
            int land = text.lands;
            if (land >= LAND_ROOM) {
                return;
            }
            text.pays[land] = pays;
            text.lands++;
            for (int n = 0; n < WANT_ROOM && kindBehind() == NAME; n++) {
                int piece = wantedPiece(text, land);
                int many = number(1, 99);
                if (piece >= 0 && piece < PIECE_ROOM) {
                    text.wants[land * PIECE_ROOM + piece] = many;
                }
            }
        }

        private int wantedPiece(Text text, int land) {
            int piece = text.pieces.findInAll(name());
            if (piece < 0 || piece >= PIECE_ROOM) {
                fail(NAME_FAULT);
            } else if (text.wants[land * PIECE_ROOM + piece] != 0) {
                fail(TWICE);
            }
            return piece;
        }

        private void tellLaw(Text text) {
            text.law.clear();
            at++;
            for (int n = 0; n < TOKEN_ROOM && kindBehind() != ';' && kindBehind() != END; n++) {
                at++;
                text.law.add(kindHere(), (int) script.valueAt(at));
            }
        }
    }

    /** What a ground word brings: the tokens of the law between its = and its ; (none: its tons). */
    private static final class Law {
        final int[] vars = new int[VARS];
        private int size = 0;
        private final int[] kind = new int[TOKEN_ROOM];
        private final int[] value = new int[TOKEN_ROOM];
        private int at = 0;
        private boolean dividedByZero = false;

        void clear() {
            size = 0;
        }

        void add(int tokenKind, int tokenValue) {
            if (size < TOKEN_ROOM) {
                kind[size] = tokenKind;
                value[size] = tokenValue;
                size++;
            }
        }

        int worth() {
            if (size == 0) {
                return vars[OF_TONS];
            }
            at = 0;
            dividedByZero = false;
            int sum = firstThatHolds();
            return dividedByZero ? 0 : sum;
        }

        private int firstThatHolds() {
            for (int ifs = 0; ifs < IF_ROOM && kindHere() == IF; ifs++) {
                at++;
                int one = sum(0);
                at++;
                int two = sum(0);
                at++;
                if (one < two) {
                    break;
                }
                skipBehindElse();
            }
            return sum(0);
        }

        private void skipBehindElse() {
            while (at < size && kindHere() != ELSE) {
                at++;
            }
            at++;
        }

        private int kindHere() {
            return at >= 0 && at < size ? kind[at] : END;
        }

        private int sum(int depth) {
            int sum = product(depth);
            for (int n = 0; n < TOKEN_ROOM; n++) {
                int sign = kindHere();
                if (sign != '+' && sign != '-') {
                    break;
                }
                at++;
                int more = product(depth);
                sum = sign == '+' ? sum + more : sum - more;
            }
            return sum;
        }

        private int product(int depth) {
            int product = unit(depth);
            for (int n = 0; n < TOKEN_ROOM; n++) {
                int sign = kindHere();
                if (sign != '*' && sign != '/') {
                    break;
                }
                at++;
                int more = unit(depth);
                product = sign == '*' ? product * more : quotient(product, more);
            }
            return product;
        }

        private int quotient(int one, int two) {
            if (two == 0) {
                dividedByZero = true;
                return 0;
            }
            return one / two;
        }

        private int unit(int depth) {
            int here = kindHere();
            int result = at >= 0 && at < size ? value[at] : 0;
            at++;
            if (Script.isVar(here)) {
                return vars[here - ENDS_VAR];
            }
            if (here == '(' && depth < OPEN_ROOM) {
                result = sum(depth + 1);
                at++;
            }
            return result;
        }
    }

    // ---- what goes on

    /** All that things done change. */
    private static final class State {
        int on = 0;
        final int[] orderOf = new int[STONE_ROOM];
        final long[] words = new long[WORD_ROOM];
        final int[] fate = new int[WORD_ROOM];
        final int[] stocks = new int[PIECE_ROOM];
        int coins = 0;
        int dust = 0;
        int century = 0;
        int sold = 0;

        void begin(Text text) {
            on = bitsBelow(text.stones.size);
            for (int p = 0; p < STONE_ROOM; p++) {
                orderOf[p] = p;
            }
            System.arraycopy(text.word, 0, words, 0, WORD_ROOM);
            Arrays.fill(fate, WHOLE);
            Arrays.fill(stocks, 0);
            coins = 0;
            dust = 0;
            century = 0;
            sold = 0;
        }

        void copy(State other) {
            on = other.on;
            System.arraycopy(other.orderOf, 0, orderOf, 0, STONE_ROOM);
            System.arraycopy(other.words, 0, words, 0, WORD_ROOM);
            System.arraycopy(other.fate, 0, fate, 0, WORD_ROOM);
            System.arraycopy(other.stocks, 0, stocks, 0, PIECE_ROOM);
            coins = other.coins;
            dust = other.dust;
            century = other.century;
            sold = other.sold;
        }

        boolean isTurnedOn(int stone) {
            return (on >>> stone & 1) != 0;
        }

        int tellWord(int word, int what) {
            return what == NAME_ROOM + 1 ? fate[word] : answerOf(words[word], what);
        }

        int countFate(int size, int which) {
            int sum = 0;
            for (int w = 0; w < size && w < WORD_ROOM; w++) {
                sum += fate[w] == which ? 1 : 0;
            }
            return sum;
        }

        int wholeBits(int size) {
            int bits = 0;
            for (int w = 0; w < size && w < WORD_ROOM; w++) {
                bits |= fate[w] == WHOLE ? 1 << w : 0;
            }
            return bits;
        }

        void passCenturies(Text text, int n) {
            for (int i = 0; i < n; i++) {
                passCentury(text);
            }
        }

        void passCentury(Text text) {
            int stone = lotOf(text.stones.size, text.seed, century);
            for (int w = 0; w < text.words; w++) {
                if (fate[w] == WHOLE) {
                    words[w] = text.stones.take(stone, words[w]);
                }
            }
            for (int w = 0; w < text.words; w++) {
                if (fate[w] == WHOLE && (words[w] == 0 || isAsOneAhead(w))) {
                    fate[w] = DIED;
                }
            }
            century++;
        }

        private boolean isAsOneAhead(int word) {
            for (int w = 0; w < word; w++) {
                if (words[w] == words[word] && fate[w] == WHOLE) {
                    return true;
                }
            }
            return false;
        }

        private static int lotOf(int n, int seed, int which) {
            int h = mixed(mixed(seed, 31), which);
            return n > 0 ? (h >>> 1) % n : NONE;
        }

        private static int mixed(int h, int it) {
            int m = (h ^ it) * 1103515245 + 12345;
            return m ^ m >>> 15;
        }
    }

    // ---- ways

    /** The ways in which pieces make one word, by their codes. */
    private static final class Ways {
        static final int DIGITS = 4;
        /* A head or none, a root, a first ending or none: the second ending is then what is left. */
        private static final int ROOM_FOR_WAYS = 5 * 8 * 7;

        int size = 0;
        final int[] code = new int[ROOM_FOR_WAYS];
        final int[] uses = new int[PIECE_ROOM];

        void gather(Pieces pieces, long word) {
            size = 0;
            gatherRoots(pieces, word, 0);
            for (int h = 0; h < pieces.size[HEADS]; h++) {
                long head = pieces.name[HEADS * SORT_ROOM + h];
                if (beginsWith(word, head)) {
                    gatherRoots(pieces, behind(word, head), 1000 * (h + 1));
                }
            }
        }

        private void gatherRoots(Pieces pieces, long word, int begun) {
            for (int r = 0; r < pieces.size[ROOTS]; r++) {
                long root = pieces.name[ROOTS * SORT_ROOM + r];
                if (beginsWith(word, root)) {
                    gatherEndings(pieces, behind(word, root), begun + 100 * (r + 1));
                }
            }
        }

        private void gatherEndings(Pieces pieces, long word, int begun) {
            if (word == 0) {
                put(begun);
                return;
            }
            for (int e = 0; e < pieces.size[ENDINGS]; e++) {
                long ending = pieces.name[ENDINGS * SORT_ROOM + e];
                if (beginsWith(word, ending)) {
                    long rest = behind(word, ending);
                    int second = rest == 0 ? NONE : pieces.find(ENDINGS, rest) - ENDINGS * SORT_ROOM;
                    if (rest == 0 || second >= 0) {
                        put(begun + 10 * (e + 1) + second + 1);
                    }
                }
            }
        }

        private void put(int found) {
            if (size < ROOM_FOR_WAYS) {
                code[size] = found;
                size++;
            }
        }

        void addUses() {
            for (int i = 0; i < size; i++) {
                for (int digit = 0; digit < DIGITS; digit++) {
                    int piece = pieceIn(code[i], digit);
                    if (piece >= 0 && piece < PIECE_ROOM) {
                        uses[piece]++;
                    }
                }
            }
        }

        /** The piece that a digit of a code (0: the last) stands for, or NONE. */
        static int pieceIn(int code, int digit) {
            int piece;
            int sort;
            switch (digit) {
                case 0: piece = code % 10; sort = ENDINGS; break;
                case 1: piece = code / 10 % 10; sort = ENDINGS; break;
                case 2: piece = code / 100 % 10; sort = ROOTS; break;
                default: piece = code / 1000; sort = HEADS; break;
            }
            return piece == 0 ? NONE : sort * SORT_ROOM + piece - 1;
        }
    }

    /** What can be made of all pieces, kept for each number of letters, since it hangs on the text alone. */
    private static final class Made {
        static final int ANSWERS = 3;
        /* At most 5 * 8 * 43 words are made: the table stays less than half full. */
        private static final int TABLE = 4096;

        private int known = 0;
        private final int[] answers = new int[(MADE_ROOM + 1) * ANSWERS];
        private long[] words = new long[0];
        private int[] firstWay = new int[0];
        private int unlike = 0;
        private int twice = 0;
        private int firstTwice = NOT_THERE;

        void forget() {
            known = 0;
        }

        int tellOf(Pieces pieces, int n, int what) {
            if ((known >>> n & 1) == 0) {
                reckon(pieces, n);
                known |= 1 << n;
                answers[n * ANSWERS] = unlike;
                answers[n * ANSWERS + 1] = twice;
                answers[n * ANSWERS + 2] = firstTwice;
            }
            return answers[n * ANSWERS + what];
        }

        private void reckon(Pieces pieces, int n) {
            if (words.length < TABLE) {
                words = new long[TABLE];
                firstWay = new int[TABLE];
            }
            Arrays.fill(words, 0);
            unlike = 0;
            twice = 0;
            firstTwice = NOT_THERE;
            for (int h = 0; h <= pieces.size[HEADS]; h++) {
                long head = h == 0 ? 0 : pieces.name[HEADS * SORT_ROOM + h - 1];
                for (int r = 0; r < pieces.size[ROOTS]; r++) {
                    long root = pieces.name[ROOTS * SORT_ROOM + r];
                    int size = sizeOf(head) + sizeOf(root);
                    if (size <= n) {
                        addEndings(pieces, join(head, root), n, 1000 * h + 100 * (r + 1));
                    }
                }
            }
        }

        private static long join(long word, long more) {
            return word | more << (LETTER_BITS * sizeOf(word));
        }

        private void addEndings(Pieces pieces, long begun, int n, int code) {
            int left = n - sizeOf(begun);
            if (left == 0) {
                add(begun, code);
                return;
            }
            for (int e = 0; e < pieces.size[ENDINGS]; e++) {
                long first = pieces.name[ENDINGS * SORT_ROOM + e];
                int leftBehind = left - sizeOf(first);
                if (leftBehind == 0) {
                    add(join(begun, first), code + 10 * (e + 1));
                }
                for (int f = 0; f < pieces.size[ENDINGS]; f++) {
                    long second = pieces.name[ENDINGS * SORT_ROOM + f];
                    if (leftBehind == sizeOf(second)) {
                        add(join(join(begun, first), second), code + 10 * (e + 1) + f + 1);
                    }
                }
            }
        }

        /** Ways come by their numbers, so the first that makes a word is kept; it turns negative by the second. */
        private void add(long word, int code) {
            int at = slotOf(word);
            if (words[at] == 0) {
                words[at] = word;
                firstWay[at] = code;
                unlike++;
            } else if (firstWay[at] > 0) {
                if (firstTwice == NOT_THERE || firstWay[at] < firstTwice) {
                    firstTwice = firstWay[at];
                }
                firstWay[at] = -firstWay[at];
                twice++;
            }
        }

        private int slotOf(long word) {
            int at = (int) ((word ^ word >>> 23) * 0x9E3779B97F4A7C15L >>> 52);
            for (int n = 0; n < TABLE && words[at] != 0 && words[at] != word; n++) {
                at = at + 1 & TABLE - 1;
            }
            return at;
        }
    }

    // ---- sets and orders of stones

    /** What comes out of all pairs by every set of stones, in the order as it is. */
    private static final class Sets {
        private static final int SETS = 1 << STONE_ROOM;

        boolean fresh = false;
        private int size = 1;
        private int stones = 0;
        private final long[] out = new long[SETS * PAIR_ROOM];
        private final int[] right = new int[SETS];
        private final int[] rightOther = new int[SETS];
        private final long[] sorts = new long[SETS];

        void fill(Text text, int[] orderOf) {
            stones = text.stones.size;
            size = 1 << stones;
            System.arraycopy(text.in, 0, out, 0, PAIR_ROOM);
            int placed = 0;
            for (int p = 0; p < stones; p++) {
                addStone(text, placed, orderOf[p]);
                placed |= 1 << orderOf[p];
            }
            for (int set = 0; set < size; set++) {
                judge(text, set);
            }
            fresh = true;
        }

        /** Sets of stones that stand ahead have come out already: the next stone takes what came out of each. */
        private void addStone(Text text, int placed, int stone) {
            for (int set = 0; set < size; set++) {
                if ((set & ~placed) == 0) {
                    int with = set | 1 << stone;
                    for (int p = 0; p < text.pairs; p++) {
                        out[with * PAIR_ROOM + p] = text.stones.take(stone, out[set * PAIR_ROOM + p]);
                    }
                }
            }
        }

        private void judge(Text text, int set) {
            right[set] = 0;
            rightOther[set] = 0;
            for (int p = 0; p < text.pairs; p++) {
                long comes = out[set * PAIR_ROOM + p];
                if (comes == text.out[p]) {
                    right[set] |= 1 << p;
                }
                if (text.other[p] == 0 || comes == text.other[p]) {
                    rightOther[set] |= 1 << p;
                }
            }
        }

        /** The pairs that a set brings out as told; of the other tongue, also those that do not tell it. */
        int rightOf(int set, boolean other) {
            if (set < 0 || set >= size) {
                return 0;
            }
            return other ? rightOther[set] : right[set];
        }

        boolean fits(int set, int k, boolean other) {
            return (bitsBelow(k) & ~rightOf(set, other)) == 0;
        }

        int countThatFit(int k, boolean other) {
            int sum = 0;
            for (int set = 0; set < size; set++) {
                sum += fits(set, k, other) ? 1 : 0;
            }
            return sum;
        }

        int leastThatFits(int k, boolean other) {
            for (int set = 0; set < size; set++) {
                if (fits(set, k, other)) {
                    return set;
                }
            }
            return NOT_THERE;
        }

        int listSum(Text text, int set) {
            int sum = 3 * Integer.bitCount(set);
            int beside = ~rightOf(set, false);
            for (int p = 0; p < text.pairs; p++) {
                if ((beside >>> p & 1) != 0) {
                    sum += 1 + sizeOf(text.out[p]);
                }
            }
            return sum;
        }

        int leastList(Text text) {
            int best = 0;
            int bestSum = listSum(text, 0);
            for (int set = 1; set < size; set++) {
                int sum = listSum(text, set);
                if (sum < bestSum || sum == bestSum && Integer.bitCount(set) < Integer.bitCount(best)) {
                    best = set;
                    bestSum = sum;
                }
            }
            return best;
        }

        /** Of how many sorts is what comes out of a pair by the sets that fit. */
        int sortsOf(int pair, int k) {
            int found = 0;
            for (int set = 0; set < size; set++) {
                if (fits(set, k, false)) {
                    sorts[found] = out[set * PAIR_ROOM + pair];
                    int first = 0;
                    while (first < found && sorts[first] != sorts[found]) {
                        first++;
                    }
                    found += first == found ? 1 : 0;
                }
            }
            return found;
        }

        /** The most stones from the order's begin on that one set that fits has; NONE if none fits. */
        int longestStart(int k, boolean other, int[] orderOf) {
            int longest = NONE;
            for (int set = 0; set < size; set++) {
                if (fits(set, k, other)) {
                    int start = 0;
                    while (start < stones && (set >>> orderOf[start] & 1) != 0) {
                        start++;
                    }
                    longest = Math.max(longest, start);
                }
            }
            return longest;
        }
    }

    /**
     * The orders of the stones that are on, and which of them fit, for every k at once.
     *
     * Orders that have put the same stones and left the same words go on alike, so they are carried on as one:
     * how many they are, the fewest swaps, the first by numbers (three bits a stone, the first stone highest).
     */
    private static final class Orders {
        private static final int STONE_BITS = 3;
        private static final int FIRST_ROOM = 64;

        boolean fresh = false;
        final int[] many = new int[PAIR_ROOM + 1];
        final int[] first = new int[PAIR_ROOM + 1];
        final int[] fewest = new int[PAIR_ROOM + 1];
        private final int[] chain = new int[1 << STONE_ROOM];
        private final int[] standBehind = new int[STONE_ROOM];
        private final long[] fresher = new long[PAIR_ROOM];
        private int size = 0;
        private int[] follower = new int[FIRST_ROOM];
        private int[] waysTo = new int[FIRST_ROOM];
        private int[] firstTo = new int[FIRST_ROOM];
        private int[] swapsTo = new int[FIRST_ROOM];
        private long[] words = new long[FIRST_ROOM * PAIR_ROOM];

        static int stoneIn(int packed, int size, int i) {
            return packed >>> (STONE_BITS * (size - 1 - i)) & bitsBelow(STONE_BITS);
        }

        void fill(Text text, State state) {
            Arrays.fill(many, 0);
            Arrays.fill(chain, NONE);
            size = 0;
            noteWhoStandsBehind(text, state);
            System.arraycopy(text.in, 0, fresher, 0, PAIR_ROOM);
            if (state.on == 0) {
                reckon(text, 1, 0, 0);
            } else {
                arrive(text, 0, 1, 0, 0);
            }
            for (int set = 0; set < state.on; set++) {
                if ((set & ~state.on) == 0) {
                    goOnFrom(text, set, state.on);
                }
            }
            fresh = true;
        }

        private void noteWhoStandsBehind(Text text, State state) {
            int bits = 0;
            for (int p = text.stones.size - 1; p >= 0; p--) {
                int stone = state.orderOf[p];
                standBehind[stone] = bits;
                bits |= 1 << stone;
            }
        }

        private void goOnFrom(Text text, int set, int all) {
            int known = size;
            int i = chain[set];
            for (int n = 0; n < known && i >= 0 && i < known; n++) {
                for (int stone = 0; stone < text.stones.size; stone++) {
                    int with = set | 1 << stone;
                    if (with != set && (with & ~all) == 0) {
                        step(text, i, set, stone, all);
                    }
                }
                i = follower[i];
            }
        }

        private void step(Text text, int i, int set, int stone, int all) {
            for (int p = 0; p < text.pairs; p++) {
                fresher[p] = text.stones.take(stone, words[i * PAIR_ROOM + p]);
            }
            int with = set | 1 << stone;
            int order = firstTo[i] << STONE_BITS | stone;
            int swaps = swapsTo[i] + Integer.bitCount(set & standBehind[stone]);
            if (with == all) {
                reckon(text, waysTo[i], order, swaps);
            } else {
                arrive(text, with, waysTo[i], order, swaps);
            }
        }

        private void arrive(Text text, int set, int ways, int order, int swaps) {
            int i = chain[set];
            for (int n = 0; n < size && i >= 0 && i < size; n++) {
                if (isAsFresher(text, i)) {
                    waysTo[i] += ways;
                    firstTo[i] = Math.min(firstTo[i], order);
                    swapsTo[i] = Math.min(swapsTo[i], swaps);
                    return;
                }
                i = follower[i];
            }
            makeRoom();
            System.arraycopy(fresher, 0, words, size * PAIR_ROOM, PAIR_ROOM);
            waysTo[size] = ways;
            firstTo[size] = order;
            swapsTo[size] = swaps;
            follower[size] = chain[set];
            chain[set] = size;
            size++;
        }

        private boolean isAsFresher(Text text, int i) {
            for (int p = 0; p < text.pairs; p++) {
                if (words[i * PAIR_ROOM + p] != fresher[p]) {
                    return false;
                }
            }
            return true;
        }

        private void makeRoom() {
            if (size >= follower.length) {
                int room = 2 * follower.length;
                follower = Arrays.copyOf(follower, room);
                waysTo = Arrays.copyOf(waysTo, room);
                firstTo = Arrays.copyOf(firstTo, room);
                swapsTo = Arrays.copyOf(swapsTo, room);
                words = Arrays.copyOf(words, room * PAIR_ROOM);
            }
        }

        /** Whole orders count for each k up to the first pair that does not come out as told. */
        private void reckon(Text text, int ways, int order, int swaps) {
            for (int k = 0; k <= text.pairs; k++) {
                if (many[k] == 0) {
                    first[k] = order;
                    fewest[k] = swaps;
                }
                many[k] += ways;
                first[k] = Math.min(first[k], order);
                fewest[k] = Math.min(fewest[k], swaps);
                if (k < text.pairs && fresher[k] != text.out[k]) {
                    return;
                }
            }
        }
    }
}
