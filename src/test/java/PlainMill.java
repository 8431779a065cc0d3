import java.util.ArrayDeque;
import java.util.ArrayList;
import java.util.Collections;
import java.util.HashMap;
import java.util.HashSet;
import java.util.LinkedHashMap;
import java.util.List;
import java.util.Map;
import java.util.Set;

/** The document once more, told with texts, lists and maps and without a thought for speed: what WordMill is compared with. */
final class PlainMill {
    static final int NONE = -1;

    /** A fault of a text. */
    private static final class Fault extends RuntimeException {
        private static final long serialVersionUID = 1L;
        final int number;
        final int place;

        Fault(int number, int place) {
            super(number + " at " + place);
            this.number = number;
            this.place = place;
        }
    }

    record Token(String text, int place, boolean valid) {
        boolean isName() {
            return valid && text.matches("[a-z]+") && !QUOTED.contains(text);
        }

        boolean isInt() {
            return valid && text.matches("[0-9]+");
        }
    }

    record Stone(char from, String into, String after, String before) { }

    record Piece(String letters, int tons) { }

    record Pair(String in, String out, String other) { }

    record Land(int pays, Map<Integer, Integer> wants) { }

    private static final Set<String> QUOTED = Set.of("class", "stone", "to", "none", "after", "before", "root", "ending",
        "head", "word", "pair", "land", "brings", "seed", "edge", "if", "then", "else", "ends", "heads", "tons", "dust",
        "turn", "left");
    private static final Map<String, Integer> LIMITS = Map.of("class", 6, "stone", 7, "root", 8, "ending", 6, "head", 4,
        "word", 10, "pair", 8, "land", 5);

    /** What a text tells. */
    private static final class Told {
        final Map<String, String> classes = new LinkedHashMap<>();
        final List<Stone> stones = new ArrayList<>();
        final List<List<Piece>> pieces = List.of(new ArrayList<>(), new ArrayList<>(), new ArrayList<>());
        final List<String> words = new ArrayList<>();
        final List<Pair> pairs = new ArrayList<>();
        final List<Land> lands = new ArrayList<>();
        List<Token> law = null;
        int seed = 0;
    }

    /** What goes on. */
    private static final class Going {
        List<Integer> order = new ArrayList<>();
        Set<Integer> on = new HashSet<>();
        List<String> words = new ArrayList<>();
        List<Integer> fate = new ArrayList<>();
        Map<Integer, Integer> stock = new HashMap<>();
        Set<Integer> sold = new HashSet<>();
        int coins = 0;
        int dust = 0;
        int century = 0;

        Going copy() {
            Going g = new Going();
            g.order = new ArrayList<>(order);
            g.on = new HashSet<>(on);
            g.words = new ArrayList<>(words);
            g.fate = new ArrayList<>(fate);
            g.stock = new HashMap<>(stock);
            g.sold = new HashSet<>(sold);
            g.coins = coins;
            g.dust = dust;
            g.century = century;
            return g;
        }
    }

    private final List<Integer> tape = new ArrayList<>();
    private int place = NONE;
    private Told told = new Told();
    private Going now = new Going();
    private final ArrayDeque<Going> past = new ArrayDeque<>();
    private final Going[] slots = new Going[3];

    int feed(int a, int b, int c, int d, int e) {
        if (tape.size() > 1980) {
            return NONE;
        }
        for (int four : new int[] {a, b, c, d, e}) {
            tape.add(four >> 24 & 255);
            tape.add(four >> 16 & 255);
            tape.add(four >> 8 & 255);
            tape.add(four & 255);
        }
        return tape.size();
    }

    int back(int n) {
        if (n < 0 || n > tape.size()) {
            return NONE;
        }
        for (int i = 0; i < n; i++) {
            tape.remove(tape.size() - 1);
        }
        return tape.size();
    }

    int read() {
        StringBuilder text = new StringBuilder();
        for (int b : tape) {
            text.append((char) b);
        }
        tape.clear();
        place = NONE;
        try {
            List<Token> tokens = tokens(text.toString());
            new Syntax(tokens, text.length()).check();
            told = tell(tokens);
        } catch (Fault fault) {
            place = fault.place;
            return fault.number;
        }
        now = new Going();
        for (int s = 0; s < told.stones.size(); s++) {
            now.order.add(s);
            now.on.add(s);
        }
        for (String w : told.words) {
            now.words.add(w);
            now.fate.add(0);
        }
        past.clear();
        slots[0] = slots[1] = slots[2] = null;
        return 0;
    }

    private static List<Token> tokens(String text) {
        List<Token> all = new ArrayList<>();
        int i = 0;
        while (i < text.length()) {
            char c = text.charAt(i);
            if (c == 9 || c == 10 || c == 13 || c == 32) {
                i++;
                continue;
            }
            int end = i + 1;
            if (c >= 'a' && c <= 'z') {
                while (end < text.length() && text.charAt(end) >= 'a' && text.charAt(end) <= 'z') {
                    end++;
                }
                all.add(new Token(text.substring(i, end), i, end - i <= 8));
            } else if (c >= '0' && c <= '9') {
                while (end < text.length() && text.charAt(end) >= '0' && text.charAt(end) <= '9') {
                    end++;
                }
                all.add(new Token(text.substring(i, end), i, end - i <= 4));
            } else {
                all.add(new Token(text.substring(i, end), i, ";=+-*/<()".indexOf(c) >= 0));
            }
            i = end;
        }
        return all;
    }

    /** Walks the grammar by recursion and throws the first fault of syntax or room. */
    private static final class Syntax {
        private final List<Token> tokens;
        private final int length;
        private int at = 0;

        Syntax(List<Token> tokens, int length) {
            this.tokens = tokens;
            this.length = length;
        }

        private String here() {
            if (at >= tokens.size()) {
                return "END";
            }
            Token t = tokens.get(at);
            return !t.valid ? "BAD" : t.isName() ? "NAME" : t.isInt() ? "INT" : t.text;
        }

        private int placeHere() {
            return at < tokens.size() ? tokens.get(at).place : length;
        }

        private void take(String... any) {
            for (String one : any) {
                if (here().equals(one)) {
                    if (at == 400) {
                        throw new Fault(2, placeHere());
                    }
                    at++;
                    return;
                }
            }
            throw new Fault(1, placeHere());
        }

        private void room(boolean there) {
            if (!there) {
                throw new Fault(2, placeHere());
            }
        }

        void check() {
            Map<String, Integer> many = new HashMap<>();
            while (!here().equals("END")) {
                String sort = here();
                if (LIMITS.containsKey(sort)) {
                    many.merge(sort, 1, Integer::sum);
                    room(many.get(sort) <= LIMITS.get(sort));
                }
                take("class", "stone", "root", "ending", "head", "word", "pair", "land", "brings", "seed");
                switch (sort) {
                    case "class" -> { take("NAME"); take("NAME"); }
                    case "stone" -> stone();
                    case "root", "ending", "head" -> { take("NAME"); take("INT"); }
                    case "word" -> take("NAME");
                    case "pair" -> {
                        take("NAME");
                        take("NAME");
                        if (here().equals("NAME")) {
                            take("NAME");
                        }
                    }
                    case "land" -> {
                        take("INT");
                        for (int n = 1; here().equals("NAME"); n++) {
                            room(n <= 4);
                            take("NAME");
                            take("INT");
                        }
                    }
                    case "brings" -> law();
                    default -> take("INT");
                }
                take(";");
            }
        }

        private void stone() {
            take("NAME");
            take("to");
            take("NAME", "none");
            for (String side : List.of("after", "before")) {
                if (here().equals(side)) {
                    take(side);
                    take("NAME", "edge");
                }
            }
        }

        private void law() {
            take("=");
            for (int n = 1; here().equals("if"); n++) {
                room(n <= 4);
                take("if");
                e(0);
                take("<");
                e(0);
                take("then");
                e(0);
                take("else");
            }
            e(0);
        }

        private void e(int depth) {
            part(depth);
            while (here().equals("+") || here().equals("-")) {
                take("+", "-");
                part(depth);
            }
        }

        private void part(int depth) {
            unit(depth);
            while (here().equals("*") || here().equals("/")) {
                take("*", "/");
                unit(depth);
            }
        }

        private void unit(int depth) {
            if (here().equals("(")) {
                room(depth < 6);
                take("(");
                e(depth + 1);
                take(")");
            } else {
                take("INT", "ends", "heads", "tons", "dust", "turn", "left");
            }
        }
    }

    private static Told tell(List<Token> tokens) {
        Told t = new Told();
        List<Token> tell = new ArrayList<>();
        for (Token token : tokens) {
            tell.add(token);
            if (token.text.equals(";")) {
                tellOne(t, tell);
                tell.clear();
            }
        }
        return t;
    }

    private static int number(Token token, int least, int most) {
        int n = Integer.parseInt(token.text);
        if (n < least || n > most) {
            throw new Fault(5, token.place);
        }
        return n;
    }

    private static void tellOne(Told t, List<Token> tell) {
        String sort = tell.get(0).text;
        Token name = tell.get(1);
        switch (sort) {
            case "class" -> {
                if (t.classes.containsKey(name.text)) {
                    throw new Fault(3, name.place);
                }
                if (name.text.length() == 1) {
                    throw new Fault(5, name.place);
                }
                t.classes.put(name.text, tell.get(2).text);
            }
            case "stone" -> tellStone(t, tell);
            case "root", "ending", "head" -> {
                List<Piece> pieces = t.pieces.get(List.of("root", "ending", "head").indexOf(sort));
                if (pieces.stream().anyMatch(p -> p.letters.equals(name.text))) {
                    throw new Fault(3, name.place);
                }
                pieces.add(new Piece(name.text, number(tell.get(2), 1, 9)));
            }
            case "word" -> t.words.add(name.text);
            case "pair" -> t.pairs.add(new Pair(name.text, tell.get(2).text, tell.size() == 5 ? tell.get(3).text : null));
            case "land" -> tellLand(t, tell);
            case "brings" -> t.law = new ArrayList<>(tell.subList(2, tell.size() - 1));
            default -> t.seed = number(name, 0, 9999);
        }
    }

    private static void tellStone(Told t, List<Token> tell) {
        String from = tell.get(1).text;
        if (from.length() > 1) {
            throw new Fault(5, tell.get(1).place);
        }
        String into = tell.get(3).text;
        if (into.equals("none")) {
            into = "";
        } else if (into.length() > 1) {
            throw new Fault(5, tell.get(3).place);
        }
        String after = null;
        String before = null;
        for (int i = 4; i + 1 < tell.size(); i += 2) {
            Token z = tell.get(i + 1);
            String letters = z.text;
            if (z.text.equals("edge")) {
                letters = "";
            } else if (z.text.length() > 1) {
                letters = t.classes.get(z.text);
                if (letters == null) {
                    throw new Fault(4, z.place);
                }
            }
            if (tell.get(i).text.equals("after")) {
                after = letters;
            } else {
                before = letters;
            }
        }
        t.stones.add(new Stone(from.charAt(0), into, after, before));
    }

    private static void tellLand(Told t, List<Token> tell) {
        int pays = number(tell.get(1), 0, 999);
        Map<Integer, Integer> wants = new HashMap<>();
        for (int i = 2; i + 1 < tell.size(); i += 2) {
            int found = -1;
            for (int sort = 2; sort >= 0; sort--) {
                for (int p = 0; p < t.pieces.get(sort).size(); p++) {
                    if (t.pieces.get(sort).get(p).letters.equals(tell.get(i).text)) {
                        found = 100 * sort + p;
                    }
                }
            }
            if (found < 0) {
                throw new Fault(4, tell.get(i).place);
            }
            if (wants.containsKey(found)) {
                throw new Fault(3, tell.get(i).place);
            }
            wants.put(found, number(tell.get(i + 1), 1, 99));
        }
        t.lands.add(new Land(pays, wants));
    }

    int place() {
        return place;
    }

    // ---- stones

    private String take(int s, String word) {
        Stone stone = told.stones.get(s);
        StringBuilder out = new StringBuilder();
        for (int i = 0; i < word.length(); i++) {
            String ahead = i == 0 ? "" : word.substring(i - 1, i);
            String behind = word.substring(i + 1, Math.min(word.length(), i + 2));
            boolean hit = word.charAt(i) == stone.from && is(stone.after, ahead) && is(stone.before, behind);
            out.append(hit ? stone.into : word.substring(i, i + 1));
        }
        return out.toString();
    }

    /** Whether a neighbour ("": none) is as told (null: any, "": the edge, else one of the letters). */
    private static boolean is(String wanted, String neighbour) {
        if (wanted == null) {
            return true;
        }
        return wanted.isEmpty() ? neighbour.isEmpty() : !neighbour.isEmpty() && wanted.contains(neighbour);
    }

    private String takeAll(List<Integer> stones, String word) {
        String left = word;
        for (int s : stones) {
            left = take(s, left);
        }
        return left;
    }

    private List<Integer> onInOrder() {
        List<Integer> stones = new ArrayList<>(now.order);
        stones.removeIf(s -> !now.on.contains(s));
        return stones;
    }

    private String ran(String word) {
        return takeAll(onInOrder(), word);
    }

    private boolean noWord(int w) {
        return w < 0 || w >= told.words.size();
    }

    private static int letter(String word, int what) {
        if (what < 0 || what > 8) {
            return NONE;
        }
        return what == 8 ? word.length() : what < word.length() ? word.charAt(what) - 'a' + 1 : 0;
    }

    int word(int w, int what) {
        return noWord(w) ? NONE : what == 9 ? now.fate.get(w) : letter(now.words.get(w), what);
    }

    int run(int w, int what) {
        return noWord(w) ? NONE : letter(ran(now.words.get(w)), what);
    }

    int stage(int w, int n, int what) {
        if (noWord(w) || n < 0 || n > now.on.size()) {
            return NONE;
        }
        return letter(takeAll(onInOrder().subList(0, n), now.words.get(w)), what);
    }

    int jams(int w) {
        if (noWord(w)) {
            return NONE;
        }
        List<Integer> stones = onInOrder();
        for (int n = 1; n <= stones.size(); n++) {
            boolean ahead = takeAll(stones.subList(0, n - 1), now.words.get(w)).isEmpty();
            if (!ahead && takeAll(stones.subList(0, n), now.words.get(w)).isEmpty()) {
                return stones.get(n - 1);
            }
        }
        return -2;
    }

    private String letters(int sort, int piece) {
        return piece < 0 ? "" : told.pieces.get(sort).get(piece).letters;
    }

    /** Every way with what it makes, by its code, in order. */
    private Map<Integer, String> allWays() {
        Map<Integer, String> all = new LinkedHashMap<>();
        for (int h = -1; h < told.pieces.get(2).size(); h++) {
            for (int r = 0; r < told.pieces.get(0).size(); r++) {
                for (int e = -1; e < told.pieces.get(1).size(); e++) {
                    for (int f = -1; f < (e < 0 ? 0 : told.pieces.get(1).size()); f++) {
                        all.put(1000 * (h + 1) + 100 * (r + 1) + 10 * (e + 1) + f + 1,
                            letters(2, h) + letters(0, r) + letters(1, e) + letters(1, f));
                    }
                }
            }
        }
        return all;
    }

    private List<Integer> waysOf(String word) {
        List<Integer> codes = new ArrayList<>();
        allWays().forEach((code, made) -> {
            if (made.equals(word)) {
                codes.add(code);
            }
        });
        return codes;
    }

    int way(int w, int i) {
        if (noWord(w)) {
            return NONE;
        }
        List<Integer> codes = waysOf(ran(now.words.get(w)));
        return i == NONE ? codes.size() : i < 0 || i >= codes.size() ? NONE : codes.get(i);
    }

    int order(int p) {
        return p < 0 || p >= now.order.size() ? NONE : now.order.get(p);
    }

    int isOn(int s) {
        return s < 0 || s >= told.stones.size() ? NONE : now.on.contains(s) ? 1 : 0;
    }

    // ---- things done

    private void remember() {
        past.addLast(now.copy());
        if (past.size() > 30) {
            past.removeFirst();
        }
    }

    boolean turn(int s) {
        if (isOn(s) == NONE) {
            return false;
        }
        remember();
        if (!now.on.remove(s)) {
            now.on.add(s);
        }
        return true;
    }

    boolean swap(int p, int q) {
        if (order(p) == NONE || order(q) == NONE || p == q) {
            return false;
        }
        remember();
        Collections.swap(now.order, p, q);
        return true;
    }

    int grind(int w) {
        if (noWord(w)) {
            return NONE;
        }
        if (now.fate.get(w) != 0) {
            return -2;
        }
        remember();
        String left = ran(now.words.get(w));
        List<Integer> codes = waysOf(left);
        Map<String, Integer> vars = new HashMap<>();
        List.of("ends", "heads", "tons", "dust").forEach(v -> vars.put(v, 0));
        vars.put("turn", Collections.frequency(now.fate, 1));
        vars.put("left", Collections.frequency(now.fate, 0));
        if (codes.isEmpty()) {
            now.dust += left.length();
            vars.put("dust", left.length());
        } else {
            for (int piece : piecesOf(codes.get(0))) {
                now.stock.merge(piece, 1, Integer::sum);
                vars.merge("tons", told.pieces.get(piece / 100).get(piece % 100).tons, Integer::sum);
                vars.merge(piece / 100 == 1 ? "ends" : piece / 100 == 2 ? "heads" : "roots", 1, Integer::sum);
            }
        }
        int coins = Math.max(0, Math.min(999, worth(vars)));
        now.coins += coins;
        now.fate.set(w, 1);
        return coins;
    }

    /** The pieces of a way, each as 100 * sort + piece. */
    private static List<Integer> piecesOf(int code) {
        List<Integer> found = new ArrayList<>();
        int[] sorts = {2, 0, 1, 1};
        int[] digits = {code / 1000, code / 100 % 10, code / 10 % 10, code % 10};
        for (int i = 0; i < 4; i++) {
            if (digits[i] > 0) {
                found.add(100 * sorts[i] + digits[i] - 1);
            }
        }
        return found;
    }

    private int worth(Map<String, Integer> vars) {
        if (told.law == null) {
            return vars.get("tons");
        }
        try {
            List<String> law = new ArrayList<>();
            told.law.forEach(token -> law.add(token.text));
            while (law.get(0).equals("if")) {
                int less = law.indexOf("<");
                int then = law.indexOf("then");
                int otherwise = law.indexOf("else");
                if (value(law.subList(1, less), vars) < value(law.subList(less + 1, then), vars)) {
                    return value(law.subList(then + 1, otherwise), vars);
                }
                law.subList(0, otherwise + 1).clear();
            }
            return value(law, vars);
        } catch (ArithmeticException divided) {
            return 0;
        }
    }

    /** An E is split at its last sign of the lowest rank that stands in no brackets. */
    private static int value(List<String> e, Map<String, Integer> vars) {
        for (List<String> signs : List.of(List.of("+", "-"), List.of("*", "/"))) {
            int depth = 0;
            for (int i = e.size() - 1; i >= 0; i--) {
                String t = e.get(i);
                depth += t.equals(")") ? 1 : t.equals("(") ? -1 : 0;
                if (depth == 0 && signs.contains(t)) {
                    int one = value(e.subList(0, i), vars);
                    int two = value(e.subList(i + 1, e.size()), vars);
                    return switch (t) {
                        case "+" -> one + two;
                        case "-" -> one - two;
                        case "*" -> one * two;
                        default -> one / two;
                    };
                }
            }
        }
        if (e.get(0).equals("(")) {
            return value(e.subList(1, e.size() - 1), vars);
        }
        return vars.containsKey(e.get(0)) ? vars.get(e.get(0)) : Integer.parseInt(e.get(0));
    }

    private boolean enoughFor(Set<Integer> lands) {
        Map<Integer, Integer> sum = new HashMap<>();
        for (int l : lands) {
            told.lands.get(l).wants.forEach((piece, n) -> sum.merge(piece, n, Integer::sum));
        }
        return sum.entrySet().stream().allMatch(want -> now.stock.getOrDefault(want.getKey(), 0) >= want.getValue());
    }

    boolean sell(int l) {
        if (l < 0 || l >= told.lands.size() || now.sold.contains(l) || !enoughFor(Set.of(l))) {
            return false;
        }
        remember();
        told.lands.get(l).wants.forEach((piece, n) -> now.stock.merge(piece, -n, Integer::sum));
        now.coins += told.lands.get(l).pays;
        now.sold.add(l);
        return true;
    }

    private static int lot(int n, int seed, int which) {
        int h = seed;
        for (int it : new int[] {31, which}) {
            h = (h ^ it) * 1103515245 + 12345;
            h = h ^ (h >>> 15);
        }
        return (h >>> 1) % n;
    }

    private void century(Going g) {
        if (!told.stones.isEmpty()) {
            int s = lot(told.stones.size(), told.seed, g.century);
            for (int w = 0; w < g.words.size(); w++) {
                if (g.fate.get(w) == 0) {
                    g.words.set(w, take(s, g.words.get(w)));
                }
            }
        }
        for (int w = 0; w < g.words.size(); w++) {
            boolean dies = g.words.get(w).isEmpty();
            for (int v = 0; v < w; v++) {
                dies |= g.fate.get(v) == 0 && g.words.get(v).equals(g.words.get(w));
            }
            if (dies && g.fate.get(w) == 0) {
                g.fate.set(w, 2);
            }
        }
        g.century++;
    }

    int centuries(int n) {
        if (n < 0 || n > 100) {
            return NONE;
        }
        if (n > 0) {
            remember();
        }
        for (int i = 0; i < n; i++) {
            century(now);
        }
        return now.century;
    }

    boolean undo() {
        if (past.isEmpty()) {
            return false;
        }
        now = past.removeLast();
        return true;
    }

    // ---- what would be

    private boolean noPiece(int sort, int piece) {
        return sort < 0 || sort > 2 || piece < 0 || piece >= told.pieces.get(sort).size();
    }

    int stock(int sort, int piece) {
        return noPiece(sort, piece) ? NONE : now.stock.getOrDefault(100 * sort + piece, 0);
    }

    int made(int n, int what) {
        if (n < 1 || n > 12 || what < 0 || what > 2) {
            return NONE;
        }
        Map<String, List<Integer>> by = new LinkedHashMap<>();
        allWays().forEach((code, made) -> {
            if (made.length() == n) {
                by.computeIfAbsent(made, k -> new ArrayList<>()).add(code);
            }
        });
        if (what == 0) {
            return by.size();
        }
        int twice = 0;
        int first = -2;
        for (List<Integer> codes : by.values()) {
            if (codes.size() > 1) {
                twice++;
                first = first == -2 ? codes.get(0) : Math.min(first, codes.get(0));
            }
        }
        return what == 1 ? twice : first;
    }

    private boolean noPairs(int k) {
        return k < 0 || k > told.pairs.size();
    }

    int pair(int p, boolean other) {
        if (p < 0 || p >= told.pairs.size()) {
            return NONE;
        }
        Pair pair = told.pairs.get(p);
        String due = other ? pair.other : pair.out;
        return due == null ? -2 : ran(pair.in).equals(due) ? 1 : 0;
    }

    private boolean fits(List<Integer> stones, int k, boolean other) {
        for (Pair pair : told.pairs.subList(0, k)) {
            String due = other ? pair.other : pair.out;
            if (due != null && !takeAll(stones, pair.in).equals(due)) {
                return false;
            }
        }
        return true;
    }

    /** All orders of the stones that fit, the first by numbers first. */
    private List<List<Integer>> ordersThatFit(int k) {
        List<List<Integer>> all = new ArrayList<>();
        List<Integer> stones = new ArrayList<>(now.on);
        Collections.sort(stones);
        grow(new ArrayList<>(), stones, all);
        all.removeIf(order -> !fits(order, k, false));
        return all;
    }

    private static void grow(List<Integer> begun, List<Integer> stones, List<List<Integer>> all) {
        if (begun.size() == stones.size()) {
            all.add(new ArrayList<>(begun));
            return;
        }
        for (int s : stones) {
            if (!begun.contains(s)) {
                begun.add(s);
                grow(begun, stones, all);
                begun.remove(begun.size() - 1);
            }
        }
    }

    int orders(int k) {
        return noPairs(k) ? NONE : ordersThatFit(k).size();
    }

    int orderAt(int k, int i) {
        if (noPairs(k) || i < 0) {
            return NONE;
        }
        List<List<Integer>> all = ordersThatFit(k);
        return all.isEmpty() ? -2 : i < now.on.size() ? all.get(0).get(i) : NONE;
    }

    /** Swaps really made, one round after the other, until an order fits. */
    int swaps(int k) {
        if (noPairs(k)) {
            return NONE;
        }
        Set<List<Integer>> goal = new HashSet<>(ordersThatFit(k));
        Set<List<Integer>> seen = new HashSet<>();
        List<List<Integer>> round = List.of(onInOrder());
        for (int n = 0; !round.isEmpty(); n++) {
            List<List<Integer>> following = new ArrayList<>();
            for (List<Integer> order : round) {
                if (goal.contains(order)) {
                    return n;
                }
                for (int i = 0; i + 1 < order.size(); i++) {
                    List<Integer> swapped = new ArrayList<>(order);
                    Collections.swap(swapped, i, i + 1);
                    if (seen.add(swapped)) {
                        following.add(swapped);
                    }
                }
            }
            round = following;
        }
        return -2;
    }

    private List<Integer> stonesOf(int bits) {
        List<Integer> stones = new ArrayList<>(now.order);
        stones.removeIf(s -> (bits >> s & 1) == 0);
        return stones;
    }

    private List<Integer> setsThatFit(int k, boolean other) {
        List<Integer> found = new ArrayList<>();
        for (int bits = 0; bits < 1 << told.stones.size(); bits++) {
            if (fits(stonesOf(bits), k, other)) {
                found.add(bits);
            }
        }
        return found;
    }

    int sets(int k, boolean other, int what) {
        if (noPairs(k) || what < 0 || what > 1) {
            return NONE;
        }
        List<Integer> found = setsThatFit(k, other);
        return what == 0 ? found.size() : found.isEmpty() ? -2 : found.get(0);
    }

    int list(int what) {
        if (what < 0 || what > 2) {
            return NONE;
        }
        int[] best = null;
        int bestBeside = 0;
        for (int bits = 0; bits < 1 << told.stones.size(); bits++) {
            int sum = 3 * Integer.bitCount(bits);
            int beside = 0;
            for (int p = 0; p < told.pairs.size(); p++) {
                Pair pair = told.pairs.get(p);
                if (!takeAll(stonesOf(bits), pair.in).equals(pair.out)) {
                    sum += 1 + pair.out.length();
                    beside |= 1 << p;
                }
            }
            int[] here = {sum, Integer.bitCount(bits), bits};
            if (best == null || java.util.Arrays.compare(here, best) < 0) {
                best = here;
                bestBeside = beside;
            }
        }
        return what == 0 ? best[0] : what == 1 ? best[2] : bestBeside;
    }

    int next(int k, int what) {
        if (noPairs(k) || what < 0 || what > 1) {
            return NONE;
        }
        int most = 0;
        int best = -2;
        List<Integer> fit = setsThatFit(k, false);
        for (int p = told.pairs.size() - 1; p >= k; p--) {
            Set<String> sorts = new HashSet<>();
            for (int bits : fit) {
                sorts.add(takeAll(stonesOf(bits), told.pairs.get(p).in));
            }
            if (!sorts.isEmpty() && sorts.size() >= most) {
                most = sorts.size();
                best = p;
            }
        }
        return best == -2 ? -2 : what == 0 ? best : most;
    }

    int parted(int k) {
        if (noPairs(k)) {
            return NONE;
        }
        int best = -2;
        List<Integer> others = setsThatFit(k, true);
        for (int one : setsThatFit(k, false)) {
            for (int two : others) {
                for (int p = 0; p <= now.order.size(); p++) {
                    int begun = 0;
                    for (int s : now.order.subList(0, p)) {
                        begun |= 1 << s;
                    }
                    if ((one & begun) == begun && (two & begun) == begun) {
                        best = Math.max(best, p);
                    }
                }
            }
        }
        return best;
    }

    int derived(int w, int v, int i) {
        if (noWord(w) || noWord(v) || i < NONE) {
            return NONE;
        }
        List<List<Integer>> round = List.of(List.of());
        for (int n = 0; n <= 4; n++) {
            List<List<Integer>> following = new ArrayList<>();
            for (List<Integer> stones : round) {
                if (takeAll(stones, now.words.get(w)).equals(now.words.get(v))) {
                    return i == NONE ? n : i < n ? stones.get(i) : NONE;
                }
                for (int s = 0; s < told.stones.size(); s++) {
                    List<Integer> more = new ArrayList<>(stones);
                    more.add(s);
                    following.add(more);
                }
            }
            round = following;
        }
        return -2;
    }

    int apart(int w, int v) {
        return noWord(w) || noWord(v) ? NONE : apart(now.words.get(w), now.words.get(v), new HashMap<>());
    }

    private static int apart(String a, String b, Map<String, Integer> known) {
        if (a.isEmpty() || b.isEmpty()) {
            return a.length() + b.length();
        }
        Integer sure = known.get(a + " " + b);
        if (sure == null) {
            int changed = apart(a.substring(1), b.substring(1), known) + (a.charAt(0) == b.charAt(0) ? 0 : 1);
            int one = 1 + Math.min(apart(a.substring(1), b, known), apart(a, b.substring(1), known));
            sure = Math.min(changed, one);
            known.put(a + " " + b, sure);
        }
        return sure;
    }

    int rhymes(int w, int v) {
        if (noWord(w) || noWord(v)) {
            return NONE;
        }
        String a = now.words.get(w);
        int n = 0;
        for (int i = 0; i <= a.length(); i++) {
            if (now.words.get(v).endsWith(a.substring(i))) {
                n = Math.max(n, a.length() - i);
            }
        }
        return n;
    }

    private int pairsRight() {
        int sum = 0;
        for (int p = 0; p < told.pairs.size(); p++) {
            sum += pair(p, false);
        }
        return sum;
    }

    int bestTurn(int what) {
        if (what < 0 || what > 1) {
            return NONE;
        }
        int most = pairsRight();
        int best = -2;
        for (int s = 0; s < told.stones.size(); s++) {
            Set<Integer> on = new HashSet<>(now.on);
            if (!now.on.remove(s)) {
                now.on.add(s);
            }
            int right = pairsRight();
            now.on = on;
            if (right > most) {
                most = right;
                best = s;
            }
        }
        return what == 0 ? best : most;
    }

    private Map<Integer, Integer> uses() {
        Map<Integer, Integer> uses = new HashMap<>();
        for (int w = 0; w < now.words.size(); w++) {
            if (now.fate.get(w) == 0) {
                for (int code : waysOf(ran(now.words.get(w)))) {
                    piecesOf(code).forEach(piece -> uses.merge(piece, 1, Integer::sum));
                }
            }
        }
        return uses;
    }

    int mostUsed(int sort, int what) {
        if (sort < 0 || sort > 2 || what < 0 || what > 1) {
            return NONE;
        }
        Map<Integer, Integer> uses = uses();
        int best = -2;
        int most = -1;
        for (int p = 0; p < told.pieces.get(sort).size(); p++) {
            int n = uses.getOrDefault(100 * sort + p, 0);
            if (n > most) {
                most = n;
                best = p;
            }
        }
        return best == -2 || what == 0 ? best : most;
    }

    int lacks(int sort, int piece) {
        if (noPiece(sort, piece)) {
            return NONE;
        }
        int need = 0;
        for (int l = 0; l < told.lands.size(); l++) {
            if (!now.sold.contains(l)) {
                need += told.lands.get(l).wants.getOrDefault(100 * sort + piece, 0);
            }
        }
        int there = stock(sort, piece);
        return need > there ? need - there : 0;
    }

    private Going ahead(int n) {
        Going g = now.copy();
        for (int i = 0; i < n; i++) {
            century(g);
        }
        return g;
    }

    int future(int w, int n, int what) {
        if (noWord(w) || n < 0 || n > 300) {
            return NONE;
        }
        Going g = ahead(n);
        return what == 9 ? g.fate.get(w) : letter(g.words.get(w), what);
    }

    int sales(int what) {
        if (what < 0 || what > 1) {
            return NONE;
        }
        int best = 0;
        int most = 0;
        for (int bits = 0; bits < 1 << told.lands.size(); bits++) {
            Set<Integer> lands = new HashSet<>();
            int pay = 0;
            boolean free = true;
            for (int l = 0; l < told.lands.size(); l++) {
                if ((bits >> l & 1) != 0) {
                    lands.add(l);
                    pay += told.lands.get(l).pays;
                    free &= !now.sold.contains(l);
                }
            }
            if (free && enoughFor(lands) && pay > most) {
                most = pay;
                best = bits;
            }
        }
        return what == 0 ? most : best;
    }

    int forged() {
        Map<Integer, Integer> uses = uses();
        int bits = 0;
        for (int r = 0; r < told.pieces.get(0).size(); r++) {
            bits |= uses.containsKey(r) ? 0 : 1 << r;
        }
        return bits;
    }

    int lives(int w) {
        if (noWord(w)) {
            return NONE;
        }
        if (now.fate.get(w) != 0) {
            return -2;
        }
        Going g = now.copy();
        for (int n = 1; n <= 300; n++) {
            century(g);
            if (g.fate.get(w) == 2) {
                return n;
            }
        }
        return -2;
    }

    int left(int n) {
        if (n < 0 || n > 300) {
            return NONE;
        }
        Going g = ahead(n);
        int bits = 0;
        for (int w = 0; w < g.fate.size(); w++) {
            bits |= g.fate.get(w) == 0 ? 1 << w : 0;
        }
        return bits;
    }

    boolean hold(int slot) {
        if (slot < 0 || slot > 2) {
            return false;
        }
        slots[slot] = now.copy();
        return true;
    }

    boolean restore(int slot) {
        if (slot < 0 || slot > 2 || slots[slot] == null) {
            return false;
        }
        now = slots[slot].copy();
        past.clear();
        return true;
    }

    int count(int what) {
        return switch (what) {
            case 0 -> told.words.size();
            case 1 -> told.stones.size();
            case 2, 3, 4 -> told.pieces.get(what - 2).size();
            case 5 -> told.pairs.size();
            case 6 -> told.lands.size();
            case 7 -> now.century;
            case 8 -> now.coins;
            case 9 -> now.dust;
            case 10 -> Collections.frequency(now.fate, 0);
            case 11 -> now.sold.stream().mapToInt(l -> 1 << l).sum();
            case 12 -> tape.size();
            case 13 -> past.size();
            case 14 -> (int) java.util.Arrays.stream(slots).filter(s -> s != null).count();
            case 15 -> now.stock.entrySet().stream()
                .mapToInt(s -> s.getValue() * told.pieces.get(s.getKey() / 100).get(s.getKey() % 100).tons).sum();
            case 16 -> told.classes.size();
            default -> NONE;
        };
    }
}
