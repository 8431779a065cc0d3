import java.util.ArrayList;
import java.util.List;
import java.util.Random;

/** Runs of random calls: WordMill must answer as PlainMill does. Arguments: none, or [source] [first seed] [runs]. */
public final class CompareTest {
    private static final int NONE = WordMill.NONE;
    private static final int CALLS = 150;
    /** An object is used for at most 512 calls; a text takes at most 100 to be fed, and a few more. */
    private static final int LAST_CALL = 512 - 110;

    private final Random random;
    /** Half of the runs have few letters and many words and pieces, so that more comes of them. */
    private final boolean lively;
    private final WordMill mill = new WordMill();
    private final PlainMill plain = new PlainMill();
    private final StringBuilder log = new StringBuilder();
    private int made = 0;

    private CompareTest(long seed) {
        random = new Random(seed);
        lively = seed % 2 != 0;
    }

    public static void main(String[] args) {
        long first = args.length > 1 ? Long.parseLong(args[1]) : 1;
        long runs = args.length > 2 ? Long.parseLong(args[2]) : 400;
        long calls = 0;
        for (long seed = first; seed < first + runs; seed++) {
            CompareTest run = new CompareTest(seed);
            String wrong = run.go();
            calls += run.made;
            if (wrong != null) {
                System.out.println("seed " + seed + ": " + wrong + "\n" + run.log);
                System.exit(1);
            }
        }
        System.out.println(calls + " calls answered alike");
    }

    private String go() {
        for (int i = 0; i < CALLS && made < LAST_CALL; i++) {
            String wrong = i % 50 == 0 || random.nextInt(60) == 0 ? readText() : call();
            if (wrong != null) {
                return wrong;
            }
        }
        return null;
    }

    // ---- texts

    private int below(int n) {
        return random.nextInt(n);
    }

    private boolean chance(int percent) {
        return below(100) < percent;
    }

    private String pick(String... any) {
        return any[below(any.length)];
    }

    private String name(int least, int most) {
        StringBuilder s = new StringBuilder();
        int size = least + below(most - least + 1);
        for (int i = 0; i < size; i++) {
            s.append((char) ('a' + below(lively ? 3 : 5)));
        }
        return s.toString();
    }

    private String stones(int classes, int n) {
        StringBuilder s = new StringBuilder();
        for (int c = 0; c < classes; c++) {
            s.append("class c").append((char) ('a' + c)).append(" ").append(name(1, 4)).append("; ");
        }
        for (int i = 0; i < n; i++) {
            s.append("stone ").append(name(1, 1)).append(" to ").append(chance(30) ? "none" : name(1, 1));
            if (chance(35)) {
                s.append(" after ").append(neighbour(classes));
            }
            if (chance(35)) {
                s.append(" before ").append(neighbour(classes));
            }
            s.append("; ");
        }
        return s.toString();
    }

    private String neighbour(int classes) {
        int which = below(4);
        if (which == 0) {
            return "edge";
        }
        return which == 1 || classes == 0 ? name(1, 1) : "c" + (char) ('a' + below(classes));
    }

    private String sum(int depth) {
        StringBuilder s = new StringBuilder();
        int size = 1 + below(3);
        for (int i = 0; i < size; i++) {
            if (i > 0) {
                s.append(pick(" + ", "-", " * ", "/"));
            }
            int which = below(5);
            if (which == 0 && depth < 6) {
                s.append("(").append(sum(depth + 1)).append(")");
            } else if (which < 3) {
                s.append(pick("ends", "heads", "tons", "dust", "turn", "left"));
            } else {
                s.append(chance(10) ? 9999 : below(12));
            }
        }
        return s.toString();
    }

    private String law() {
        StringBuilder s = new StringBuilder("brings =");
        int ifs = below(5);
        for (int i = 0; i < ifs; i++) {
            s.append(" if ").append(sum(0)).append(" < ").append(sum(0)).append(" then ").append(sum(0)).append(" else");
        }
        return s.append(" ").append(sum(0)).append("; ").toString();
    }

    /** What some stones leave of a word, so that pairs often come out as told. */
    private String outOf(String stones, int n, String in) {
        PlainMill other = new PlainMill();
        feed(null, other, stones + "word " + in + ";");
        other.read();
        for (int i = 0; i < n; i++) {
            if (chance(lively ? 60 : 30)) {
                other.turn(i);
            }
            if (chance(30)) {
                other.swap(i, below(n));
            }
        }
        StringBuilder s = new StringBuilder();
        for (int i = 0; i < other.run(0, 8); i++) {
            s.append((char) ('a' - 1 + other.run(0, i)));
        }
        return s.length() == 0 ? "a" : s.toString();
    }

    private String text() {
        int n = chance(20) ? 7 : below(6);
        String stones = stones(below(4), n);
        List<String> tells = new ArrayList<>();
        List<String> pieces = new ArrayList<>();
        int roots = lively ? 2 + below(7) : below(9);
        int others = below(7) + below(5);
        for (int i = 0; i < roots + others; i++) {
            String piece = name(1, chance(20) ? 8 : 3);
            String sort = i < roots ? "root " : pick("ending ", "ending ", "head ");
            int most = i < roots ? 8 : sort.equals("head ") ? 4 : 6;
            boolean fits = !lively || tells.stream().filter(t -> t.startsWith(sort)).count() < most;
            if (fits && tells.stream().noneMatch(t -> t.startsWith(sort + piece + " "))) {
                tells.add(sort + piece + " " + (1 + below(9)) + "; ");
                pieces.add(piece);
            }
        }
        int words = lively ? 4 + below(7) : below(11);
        List<String> told = new ArrayList<>();
        for (int i = 0; i < words; i++) {
            String before = told.isEmpty() ? "a" : told.get(chance(50) ? told.size() - 1 : below(told.size()));
            String word = chance(30) ? outOf(stones, n, before)
                : chance(60) && !pieces.isEmpty() ? joined(pieces) : name(1, chance(40) ? 8 : 3);
            tells.add("word " + word + "; ");
            told.add(word);
        }
        int pairs = below(9);
        for (int i = 0; i < pairs; i++) {
            String in = name(1, 8);
            tells.add("pair " + in + " " + outOf(stones, n, in) + (chance(40) ? " " + outOf(stones, n, in) : "") + "; ");
        }
        int lands = below(6);
        for (int i = 0; i < lands; i++) {
            StringBuilder s = new StringBuilder("land ").append(chance(50) ? below(1000) : below(5) * 10);
            List<String> left = new ArrayList<>(new java.util.LinkedHashSet<>(pieces));
            for (int w = below(4); w > 0 && !left.isEmpty(); w--) {
                s.append(" ").append(left.remove(below(left.size()))).append(" ").append(1 + below(chance(70) ? 2 : 99));
            }
            tells.add(s.append("; ").toString());
        }
        if (chance(70)) {
            tells.add(law());
        }
        if (chance(80)) {
            tells.add("seed " + below(10000) + "; ");
        }
        if (chance(20)) {
            tells.add(tells.isEmpty() ? "" : tells.get(below(tells.size())));
        }
        return stones + String.join(chance(20) ? "\n" : "", tells);
    }

    private String joined(List<String> pieces) {
        String s = "";
        for (int n = chance(40) ? 1 : chance(60) ? 2 : 3; n > 0; n--) {
            s += pieces.get(below(pieces.size()));
        }
        return s.substring(0, Math.min(8, s.length()));
    }

    private String spoilt(String text) {
        StringBuilder s = new StringBuilder(text);
        for (int n = 1 + below(2); n > 0; n--) {
            int at = below(s.length() + 1);
            String more = pick(" ", ";", "a", "abcdefghi", "1", "12345", "0", "(", ")", "if", "<", " none ", " edge ", "+",
                "class ab a;", "stone ab to c;", "stone a to bb;", "root a 1;", "root q 10;", "land 1000;", "land 5 zz 1;",
                "word a;", "word b;word c;word d;word e;word f;word a;", "pair a b;pair a c;pair a d;pair a e;pair b b b;",
                "head d 1;head e 1;head f 2;head g 3;", "stone a to b;stone a to c;stone a to d;stone c to d;", "land 1;land 2;",
                "root a 1;land 1 a 1 a 2;", "root g 1; land 3 g 0;", "land 3 a 100;", "stone a to b after zz;",
                "brings=((((((1))))));", "brings=(((((((1)))))));", "class a b;", "\u00e9", "\0", ".", "A", "else", "then");
            int which = below(4);
            if (which == 0 && s.length() > 0) {
                s.deleteCharAt(Math.min(at, s.length() - 1));
            } else if (which == 1 && s.length() > 0) {
                s.setCharAt(Math.min(at, s.length() - 1), " ;ab1(<".charAt(below(7)));
            } else if (which == 2) {
                s.insert(Math.max(0, s.lastIndexOf(";", at) + 1), more);
            } else {
                s.insert(at, more);
            }
        }
        return s.toString();
    }

    private String crowded() {
        StringBuilder s = new StringBuilder("brings=1");
        for (int i = 0; i < 190 + below(20); i++) {
            s.append(pick("+", "*", "-")).append(below(10));
        }
        return s.append(pick("", ";", ";seed 5;", ";seed", ")", "aaaaaaaaaa", ";word a;word", " 1")).toString();
    }

    private static void feed(WordMill mill, PlainMill plain, String text) {
        for (int at = 0; at < text.length(); at += 20) {
            int[] five = Checks.five(text, at);
            if (mill != null) {
                mill.feed(five[0], five[1], five[2], five[3], five[4]);
            }
            plain.feed(five[0], five[1], five[2], five[3], five[4]);
        }
        int over = (20 - text.length() % 20) % 20;
        if (mill != null) {
            mill.back(over);
        }
        plain.back(over);
    }

    private String readText() {
        String text = chance(5) ? crowded() : text();
        text = chance(lively ? 10 : 30) ? spoilt(text) : text;
        text = text.substring(0, Math.min(2000, text.length()));
        mill.back(mill.count(12));
        plain.back(plain.count(12));
        feed(mill, plain, text);
        made += text.length() / 20 + 4;
        log.append("text: ").append(text).append("\n");
        String wrong = same("count(12)", mill.count(12), plain.count(12));
        wrong = wrong != null ? wrong : same("read()", mill.read(), plain.read());
        return wrong != null ? wrong : same("place()", mill.place(), plain.place());
    }

    // ---- calls

    private String same(String call, int got, int due) {
        made++;
        log.append(call).append(" = ").append(got).append("\n");
        return got == due ? null : call + " answered " + got + ", due is " + due;
    }

    private String same(String call, boolean got, boolean due) {
        return same(call, got ? 1 : 0, due ? 1 : 0);
    }

    private int some(int n) {
        return chance(4) ? (chance(50) ? random.nextInt() : n) : below(n + 1) - (chance(10) ? 1 : 0);
    }

    private int word() {
        return some(Math.max(0, plain.count(0) - 1));
    }

    private int stone() {
        return some(Math.max(0, plain.count(1) - 1));
    }

    private String call() {
        int which = below(10);
        return which < 3 ? doThing() : which < 5 ? askWord() : which < 8 ? askPairs() : askRest();
    }

    private String doThing() {
        int a = stone();
        int b = stone();
        int w = word();
        switch (below(10)) {
            case 0: case 1: return same("turn(" + a + ")", mill.turn(a), plain.turn(a));
            case 2: case 3: return same("swap(" + a + ", " + b + ")", mill.swap(a, b), plain.swap(a, b));
            case 4: case 5: return same("grind(" + w + ")", mill.grind(w), plain.grind(w));
            case 6: {
                int land = some(5);
                return same("sell(" + land + ")", mill.sell(land), plain.sell(land));
            }
            case 7: {
                int n = chance(lively ? 90 : 70) ? some(lively ? 2 : 4) : some(101);
                return same("centuries(" + n + ")", mill.centuries(n), plain.centuries(n));
            }
            case 8: return same("undo()", mill.undo(), plain.undo());
            default: {
                int slot = some(3);
                return chance(50) ? same("hold(" + slot + ")", mill.hold(slot), plain.hold(slot))
                    : same("restore(" + slot + ")", mill.restore(slot), plain.restore(slot));
            }
        }
    }

    private String askWord() {
        int w = word();
        int v = chance(50) ? word() : w + 1;
        int what = some(10);
        int n = chance(70) ? some(8) : some(301);
        int i = chance(30) ? NONE : some(chance(60) ? 1 : 5);
        switch (below(13)) {
            case 0: return same("word(" + w + ", " + what + ")", mill.word(w, what), plain.word(w, what));
            case 1: return same("run(" + w + ", " + what + ")", mill.run(w, what), plain.run(w, what));
            case 2: return same("stage(" + w + ", " + n + ", " + what + ")", mill.stage(w, n, what), plain.stage(w, n, what));
            case 3: return same("jams(" + w + ")", mill.jams(w), plain.jams(w));
            case 4: case 5: return same("way(" + w + ", " + i + ")", mill.way(w, i), plain.way(w, i));
            case 6: return same("order(" + i + ")", mill.order(i), plain.order(i));
            case 7: return same("isOn(" + i + ")", mill.isOn(i), plain.isOn(i));
            case 8: return same("derived(" + w + ", " + v + ", " + i + ")", mill.derived(w, v, i), plain.derived(w, v, i));
            case 9: return same("apart(" + w + ", " + v + ")", mill.apart(w, v), plain.apart(w, v));
            case 10: return same("rhymes(" + w + ", " + v + ")", mill.rhymes(w, v), plain.rhymes(w, v));
            case 11: return same("future(" + w + ", " + n + ", " + what + ")", mill.future(w, n, what), plain.future(w, n, what));
            default: return same("lives(" + w + ")", mill.lives(w), plain.lives(w));
        }
    }

    private String askPairs() {
        int k = some(plain.count(5));
        int what = some(2);
        int i = some(7);
        boolean other = chance(50);
        switch (below(9)) {
            case 0: return same("pair(" + k + ", " + other + ")", mill.pair(k, other), plain.pair(k, other));
            case 1: return same("orders(" + k + ")", mill.orders(k), plain.orders(k));
            case 2: return same("orderAt(" + k + ", " + i + ")", mill.orderAt(k, i), plain.orderAt(k, i));
            case 3: return same("swaps(" + k + ")", mill.swaps(k), plain.swaps(k));
            case 4: return same("sets(" + k + ", " + other + ", " + what + ")", mill.sets(k, other, what), plain.sets(k, other, what));
            case 5: return same("list(" + what + ")", mill.list(what), plain.list(what));
            case 6: return same("next(" + k + ", " + what + ")", mill.next(k, what), plain.next(k, what));
            case 7: return same("parted(" + k + ")", mill.parted(k), plain.parted(k));
            default: return same("bestTurn(" + what + ")", mill.bestTurn(what), plain.bestTurn(what));
        }
    }

    private String askRest() {
        int sort = some(2);
        int piece = some(4);
        int what = some(2);
        int n = some(13);
        switch (below(10)) {
            case 0: return same("stock(" + sort + ", " + piece + ")", mill.stock(sort, piece), plain.stock(sort, piece));
            case 1: return same("made(" + n + ", " + what + ")", mill.made(n, what), plain.made(n, what));
            case 2: return same("mostUsed(" + sort + ", " + what + ")", mill.mostUsed(sort, what), plain.mostUsed(sort, what));
            case 3: return same("lacks(" + sort + ", " + piece + ")", mill.lacks(sort, piece), plain.lacks(sort, piece));
            case 4: return same("sales(" + what + ")", mill.sales(what), plain.sales(what));
            case 5: return same("forged()", mill.forged(), plain.forged());
            case 6: {
                int far = chance(60) ? n : some(301);
                return same("left(" + far + ")", mill.left(far), plain.left(far));
            }
            case 7: {
                int a = random.nextInt();
                String wrong = same("feed(" + a + "..)", mill.feed(a, 1, a, 2, 3), plain.feed(a, 1, a, 2, 3));
                int back = some(30);
                return wrong != null ? wrong : same("back(" + back + ")", mill.back(back), plain.back(back));
            }
            default: {
                int c = some(17);
                return same("count(" + c + ")", mill.count(c), plain.count(c));
            }
        }
    }
}
