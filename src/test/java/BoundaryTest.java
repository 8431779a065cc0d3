import java.util.ArrayList;
import java.util.List;

/** Promises 6 to 42 and parts II and III of 'Terms': each sentence that names a boundary, with the least, the greatest and one beyond. */
public final class BoundaryTest extends Checks {
    private static final int LEAST = Integer.MIN_VALUE;
    private static final int MOST = Integer.MAX_VALUE;
    /** Every stone is needed, in just this order, so that a comes to h. */
    private static final String CHAIN = "stone a to b; stone b to c; stone c to d; stone d to e; stone e to f; stone f to g; stone g to h; ";
    /** Stones that do not meet one another. */
    private static final String APART = "stone a to h; stone b to i; stone c to j; stone d to k; stone e to l; stone f to m; stone g to n; ";

    public static void main(String[] args) {
        words();
        states();
        runs();
        stages();
        stonesAtTheEdges();
        eachClass();
        jams();
        ways();
        allWays();
        order();
        on();
        swapped();
        ground();
        lawVariables();
        lawHeld();
        lawIfs();
        lawWraps();
        lawDividedByNothing();
        sold();
        centuries();
        lots();
        deaths();
        deathsOfAlikeOnes();
        undone();
        everyPartUndone();
        undoneThirty();
        stock();
        made();
        madeTwice();
        pairs();
        orders();
        orderAt();
        swaps();
        sets();
        setsInTheOtherTongue();
        list();
        next();
        parted();
        derived();
        derivedToNothing();
        apart();
        rhymes();
        bestTurn();
        mostUsed();
        lacks();
        future();
        sales();
        forged();
        lives();
        left();
        held();
        restored();
        counts();
        theLastCallOfAll();
        end();
    }

    // ---- promises 6 to 9

    private static int[] wordRow(WordMill mill, int word) {
        int[] row = new int[12];
        for (int what = -1; what <= 10; what++) {
            row[what + 1] = mill.word(word, what);
        }
        return row;
    }

    private static void words() {
        says("promise 6: what 0 .. 7 its letter there (1 .. 26 for a .. z; 0 behind its end), 8 how many; NONE for others");
        WordMill mill = mill("word a; word z; word abcdefgz; word mn;");
        dueAll("one letter", wordRow(mill, 0), NONE, 1, 0, 0, 0, 0, 0, 0, 0, 1, 0, NONE);
        dueAll("the last letter", wordRow(mill, 1), NONE, 26, 0, 0, 0, 0, 0, 0, 0, 1, 0, NONE);
        dueAll("eight letters", wordRow(mill, 2), NONE, 1, 2, 3, 4, 5, 6, 7, 26, 8, 0, NONE);
        dueAll("the last word", wordRow(mill, 3), NONE, 13, 14, 0, 0, 0, 0, 0, 0, 2, 0, NONE);
        for (int none : new int[] {4, -1, LEAST, MOST}) {
            for (int answer : wordRow(mill, none)) {
                due("word(" + none + ", ..)", answer, NONE);
            }
        }
        dueAll("far", new int[] {mill.word(0, LEAST), mill.word(0, MOST), mill.word(0, 32)}, NONE, NONE, NONE);
        WordMill full = mill(times(9, "word a; ") + "word q;");
        dueAll("ten words", new int[] {full.word(9, 0), full.word(10, 0), full.word(8, 0)}, 17, NONE, 1);
    }

    private static void states() {
        says("promise 6: 9: 0 whole, 1 GROUND, 2 it DIED");
        WordMill mill = mill("stone a to none; word a; word ba; word bab; word b;");
        dueAll("whole", fates(mill), 0, 0, 0, 0);
        mill.grind(1);
        dueAll("ground", fates(mill), 0, 1, 0, 0);
        due("as it is", wordOf(mill, 1), "ba");
        mill.centuries(1);
        dueAll("died", fates(mill), 2, 1, 0, 0);
        dueAll("nothing is left of it", wordRow(mill, 0), NONE, 0, 0, 0, 0, 0, 0, 0, 0, 0, 2, NONE);
        due("not taken any more", wordOf(mill, 1), "ba");
        due("taken", wordOf(mill, 2), "bb");
    }

    private static void runs() {
        says("promise 7: what 0 .. 8 likewise. NONE for others");
        WordMill mill = mill(APART + "word abcdefgz; word z; word a;");
        dueAll("all ON", new int[] {mill.run(0, -1), mill.run(0, 0), mill.run(0, 6), mill.run(0, 7), mill.run(0, 8), mill.run(0, 9),
            mill.run(0, LEAST), mill.run(0, MOST)}, NONE, 8, 14, 26, 8, NONE, NONE, NONE);
        dueAll("one letter", new int[] {mill.run(1, 0), mill.run(1, 1), mill.run(1, 7), mill.run(1, 8)}, 26, 0, 0, 1);
        dueAll("no such", new int[] {mill.run(3, 0), mill.run(-1, 0), mill.run(LEAST, 8), mill.run(MOST, 8)}, NONE, NONE, NONE, NONE);
        for (int stone = 0; stone < 7; stone++) {
            mill.turn(stone);
        }
        due("none ON", runOf(mill, 0), "abcdefgz");
        mill.turn(6);
        due("the last one alone", runOf(mill, 0), "abcdefnz");
        due("without stones", runOf(mill("word ab;"), 0), "ab");
        says("terms: a WORD of nothing stays so");
        WordMill nothing = mill("stone a to none; stone a to b; word a; word b;");
        dueAll("left of it", new int[] {nothing.run(0, 8), nothing.run(0, 0), nothing.stage(0, 1, 8), nothing.stage(0, 2, 8)}, 0, 0, 0, 0);
        due("no WAY", nothing.way(0, NONE), 0);
    }

    private static void stages() {
        says("promise 8: the first n STONES of the order that are ON (0 to all of these); NONE for others");
        WordMill mill = mill(CHAIN + "word a;");
        for (int n = 0; n <= 7; n++) {
            due("stage(0, " + n + ", 0)", mill.stage(0, n, 0), n + 1);
            due("stage(0, " + n + ", 8)", mill.stage(0, n, 8), 1);
        }
        dueAll("no such n", new int[] {mill.stage(0, 8, 0), mill.stage(0, -1, 0), mill.stage(0, LEAST, 8), mill.stage(0, MOST, 8)},
            NONE, NONE, NONE, NONE);
        dueAll("no such what", new int[] {mill.stage(0, 0, -1), mill.stage(0, 0, 9), mill.stage(0, 7, 9)}, NONE, NONE, NONE);
        dueAll("no such word", new int[] {mill.stage(1, 0, 0), mill.stage(-1, 0, 0), mill.stage(MOST, 0, 8)}, NONE, NONE, NONE);
        mill.turn(0);
        dueAll("six ON", new int[] {mill.stage(0, 6, 0), mill.stage(0, 7, 0)}, 1, NONE);
        for (int stone = 1; stone < 7; stone++) {
            mill.turn(stone);
        }
        dueAll("none ON", new int[] {mill.stage(0, 0, 0), mill.stage(0, 1, 0)}, 1, NONE);
        mill.turn(0);
        mill.swap(0, 6);
        dueAll("the last of the order alone ON", new int[] {mill.stage(0, 0, 0), mill.stage(0, 1, 0), mill.stage(0, 2, 0)}, 1, 2, NONE);
        WordMill none = mill("word a;");
        dueAll("without stones", new int[] {none.stage(0, 0, 8), none.stage(0, 1, 8)}, 1, NONE);
    }

    private static void stonesAtTheEdges() {
        says("terms: 'edge': there is none");
        stone("stone a to b after edge;", "aaaaaaaa", "baaaaaaa");
        stone("stone a to b before edge;", "aaaaaaaa", "aaaaaaab");
        stone("stone a to b after edge before edge;", "a", "b");
        stone("stone a to b after edge before edge;", "aa", "aa");
        stone("stone a to none after edge;", "aaaaaaaa", "aaaaaaa");
        stone("stone a to none before edge;", "aaaaaaaa", "aaaaaaa");
        stone("stone a to none after edge before edge;", "a", "");
        says("terms: no letter is no letter of a CLASS, nor any letter");
        stone("stone a to b after vow;", "a", "a");
        stone("stone a to b before vow;", "a", "a");
        stone("stone a to b after a;", "a", "a");
        stone("stone a to b before a;", "a", "a");
        stone("stone a to b after z before z;", "zaz", "zbz");
        says("terms: one of a CLASS; the last letter of all");
        stone("class az az; stone m to n after az before az;", "amzma", "anzna");
        stone("class full abcdefgh; stone z to y after full;", "zazhzizz", "zayhyizz");
        says("terms: all places at once");
        stone("stone a to b after a;", "aaaaaaaa", "abbbbbbb");
        stone("stone a to b before a;", "aaaaaaaa", "bbbbbbba");
        stone("stone a to none after a;", "aaaaaaaa", "a");
        stone("stone a to none;", "aaaaaaaa", "");
        stone("stone a to none;", "baaaaaab", "bb");
        stone("stone a to none; stone b to none after b;", "bab", "b");
        says("terms: without AFTER and BEFORE wherever its letter stands");
        stone("stone z to a;", "zzzzzzzz", "aaaaaaaa");
        stone("stone q to q;", "q", "q");
        stone(APART, "abcdefgh", "hijklmnh");
    }

    private static void jams() {
        says("promise 9: the first STONE that JAMS a WORD; -2: none does; NONE: no such one");
        WordMill mill = mill("stone a to none; stone b to none; word a; word ab; word c; word b; word aaaaaaaa;");
        dueAll("jams", new int[] {mill.jams(0), mill.jams(1), mill.jams(2), mill.jams(3), mill.jams(4)}, 0, 1, -2, 1, 0);
        dueAll("no such", new int[] {mill.jams(5), mill.jams(-1), mill.jams(LEAST), mill.jams(MOST)}, NONE, NONE, NONE, NONE);
        mill.swap(0, 1);
        dueAll("by the order", new int[] {mill.jams(0), mill.jams(1), mill.jams(3)}, 0, 0, 1);
        mill.turn(0);
        dueAll("one ON", new int[] {mill.jams(0), mill.jams(1), mill.jams(3)}, -2, -2, 1);
        mill.turn(1);
        dueAll("none ON", new int[] {mill.jams(0), mill.jams(3)}, -2, -2);
        due("without stones", mill("word a;").jams(0), -2);
        WordMill last = mill("stone a to b; stone b to c; stone c to d; stone d to e; stone e to f; stone f to g; stone g to none; word a; word aha;");
        dueAll("the last of seven", new int[] {last.jams(0), last.jams(1)}, 6, -2);
        says("terms: a WORD of nothing stays so: no STONE JAMS it");
        WordMill nothing = mill("stone a to none; word a; word b;");
        due("of a letter", nothing.jams(0), 0);
        nothing.centuries(1);
        due("of nothing", nothing.jams(0), -2);
        nothing.turn(0);
        due("of nothing, none ON", nothing.jams(0), -2);
    }

    // ---- promise 10

    private static void ways() {
        says("promise 10: how many (i NONE), else the i-th's code; NONE: no such ones, not so many");
        WordMill mill = mill("head h 1; root r 1; ending b 1; ending bb 1; word hrbb; word r; word q; word rbbb;");
        dueAll("two", waysOf(mill, 0), 1111, 1120);
        dueAll("one", waysOf(mill, 1), 100);
        dueAll("none", waysOf(mill, 2));
        dueAll("by two ENDINGS either way", waysOf(mill, 3), 112, 121);
        dueAll("i", new int[] {mill.way(0, -2), mill.way(0, LEAST), mill.way(0, MOST), mill.way(0, 2), mill.way(1, 1), mill.way(2, 0)},
            NONE, NONE, NONE, NONE, NONE, NONE);
        dueAll("no such", new int[] {mill.way(4, NONE), mill.way(-1, NONE), mill.way(-1, 0), mill.way(LEAST, 0), mill.way(MOST, NONE)},
            NONE, NONE, NONE, NONE, NONE);
        says("terms: a HEAD or none, a ROOT, an ENDING or none, behind an ENDING one more or none");
        WordMill most = mill("head h 1; root r 1; ending b 1; word hrbb; word hrbbb; word rbbb; word hr; word hhr; word rr; word br;"
            + "word hb; word h; word b;");
        int[] many = new int[10];
        for (int w = 0; w < 10; w++) {
            many[w] = most.way(w, NONE);
        }
        dueAll("how many", many, 1, 0, 0, 1, 0, 0, 0, 0, 0, 0);
        dueAll("codes", new int[] {most.way(0, 0), most.way(3, 0)}, 1111, 1100);
        says("terms: just what is left");
        WordMill just = mill("head abc 1; root abcdefgh 1; root abcdefg 1; root de 1; ending fg 1; ending h 1; word abcdefgh; word abcdef;"
            + "word abcde; word de;");
        dueAll("eight letters", waysOf(just, 0), 100, 220, 1312);
        dueAll("a letter too many", waysOf(just, 1));
        dueAll("a HEAD and a ROOT", waysOf(just, 2), 1300);
        dueAll("a ROOT alone", waysOf(just, 3), 300);
        due("a ROOT that is longer", mill("root abcdefgh 1; word abcdefg;").way(0, NONE), 0);
    }

    private static String alike(int n) {
        return times(n, "a");
    }

    /** Pieces of one letter alone in all lengths: the ways are all sums, numbered as four loops number them. */
    private static void allWays() {
        says("terms: numbered from 0 on by HEADS (none first), then ROOTS, then ENDINGS (none first) one by one");
        StringBuilder text = new StringBuilder();
        for (int n = 1; n <= 8; n++) {
            text.append("root ").append(alike(n)).append(" 1; ");
            text.append(n <= 6 ? "ending " + alike(n) + " 1; " : "").append(n <= 4 ? "head " + alike(n) + " 1; " : "");
        }
        for (int size : new int[] {1, 2, 7, 8}) {
            List<Integer> codes = new ArrayList<>();
            for (int h = 0; h <= 4; h++) {
                for (int r = 1; r <= 8; r++) {
                    for (int e = 0; e <= 6; e++) {
                        for (int f = 0; f <= (e == 0 ? 0 : 6); f++) {
                            if (h + r + e + f == size) {
                                codes.add(1000 * h + 100 * r + 10 * e + f);
                            }
                        }
                    }
                }
            }
            dueAll("of " + size, waysOf(mill(text + "word " + alike(size) + ";"), 0), codes.stream().mapToInt(c -> c).toArray());
        }
        StringBuilder last = new StringBuilder();
        for (int i = 0; i < 8; i++) {
            String name = String.valueOf((char) ('a' + i));
            last.append("root ").append(name).append(" 9; ");
            last.append(i < 6 ? "ending " + name + " 9; " : "").append(i < 4 ? "head " + name + " 9; " : "");
        }
        WordMill mill = mill(last + "word dhff; word a; word aaaa; word ha;");
        dueAll("the greatest code", waysOf(mill, 0), 4866);
        dueAll("the least", waysOf(mill, 1), 100);
        dueAll("the first of each", waysOf(mill, 2), 1111);
        dueAll("an ENDING, no second one", waysOf(mill, 3), 810);
    }

    // ---- promises 11 to 14

    private static void order() {
        says("promise 11: NONE: no such place");
        WordMill mill = mill(CHAIN);
        for (int p = 0; p < 7; p++) {
            due("order(" + p + ")", mill.order(p), p);
        }
        dueAll("no such", new int[] {mill.order(7), mill.order(-1), mill.order(LEAST), mill.order(MOST)}, NONE, NONE, NONE, NONE);
        WordMill one = mill("stone a to b;");
        dueAll("one", new int[] {one.order(0), one.order(1)}, 0, NONE);
        due("without stones", mill("word a;").order(0), NONE);
    }

    private static void on() {
        says("promise 12: NONE: no such one; promise 13: false: no such one");
        WordMill mill = mill(CHAIN);
        String before = goingOn(mill);
        for (int none : new int[] {7, -1, 8, 31, 32, 39, LEAST, MOST}) {
            due("isOn(" + none + ")", mill.isOn(none), NONE);
            due("turn(" + none + ")", mill.turn(none), false);
        }
        due("nothing happened", goingOn(mill), before);
        for (int stone : new int[] {0, 6}) {
            due("isOn", mill.isOn(stone), 1);
            due("turn", mill.turn(stone), true);
            due("isOn", mill.isOn(stone), 0);
            due("the one beside", mill.isOn(stone == 0 ? 1 : 5), 1);
        }
        due("turn", mill.turn(6), true);
        due("or the other way round", mill.isOn(6), 1);
        due("things done", mill.count(13), 3);
        WordMill none = mill("word a;");
        due("without stones", none.turn(0), false);
        due("things done", none.count(13), 0);
    }

    private static void swapped() {
        says("promise 14: false, and nothing happens: no such ones, one and the same");
        WordMill mill = mill(CHAIN);
        String before = goingOn(mill);
        int[][] refused = {{0, 0}, {6, 6}, {0, 7}, {7, 0}, {-1, 0}, {0, -1}, {-1, -1}, {7, 8}, {LEAST, 0}, {0, MOST}};
        for (int[] two : refused) {
            due("swap(" + two[0] + ", " + two[1] + ")", mill.swap(two[0], two[1]), false);
        }
        due("nothing happened", goingOn(mill), before);
        due("the first and the last", mill.swap(0, 6), true);
        dueAll("order", new int[] {mill.order(0), mill.order(1), mill.order(5), mill.order(6)}, 6, 1, 5, 0);
        due("back again", mill.swap(6, 0), true);
        dueAll("order", new int[] {mill.order(0), mill.order(6)}, 0, 6);
        due("things done", mill.count(13), 2);
        due("one stone", mill("stone a to b;").swap(0, 0), false);
    }

    // ---- promises 15 and 16

    private static void ground() {
        says("promise 15: -2, and nothing happens: it is not whole; NONE: no such WORD");
        WordMill mill = mill("stone a to none; root b 1; word b; word a; word b; word cb; land 9 b 1;");
        mill.centuries(1);
        due("grind", mill.grind(0), 1);
        String before = goingOn(mill);
        dueAll("GROUND, DIED of nothing, DIED alike", new int[] {mill.grind(0), mill.grind(1), mill.grind(2)}, -2, -2, -2);
        dueAll("no such", new int[] {mill.grind(4), mill.grind(-1), mill.grind(LEAST), mill.grind(MOST)}, NONE, NONE, NONE, NONE);
        due("nothing happened", goingOn(mill), before);
        due("without a WAY", mill.grind(3), 0);
        dueAll("dust", new int[] {mill.count(9), mill.count(10), mill.stock(0, 0)}, 2, 0, 1);
        says("terms: by its first WAY each PIECE of it is one more in stock");
        WordMill first = mill("head a 9; root a 1; root aa 3; ending a 4; word aaa; word aaa;");
        due("way 0 is 111", first.way(0, 0), 111);
        due("grind", first.grind(0), 9);
        dueAll("stock", new int[] {first.stock(0, 0), first.stock(0, 1), first.stock(1, 0), first.stock(2, 0)}, 1, 0, 2, 0);
        due("grind", first.grind(1), 9);
        dueAll("stock", new int[] {first.stock(0, 0), first.stock(1, 0), first.count(15), first.count(8)}, 2, 4, 18, 18);
        says("terms: without a WAY all letters that are left are DUST");
        WordMill dust = mill("stone x to none; word abcdefgh; word xxxxxxxx; word xaxxxxxx; brings = dust + 100;");
        dueAll("eight, none, one", new int[] {dust.grind(0), dust.grind(1), dust.grind(2)}, 108, 100, 101);
        dueAll("together", new int[] {dust.count(9), dust.count(8)}, 9, 309);
    }

    private static int[] brought(String text, String law) {
        WordMill mill = mill(text + "brings = " + law + ";");
        int[] coins = new int[mill.count(0)];
        for (int w = 0; w < coins.length; w++) {
            coins[w] = mill.grind(w);
        }
        return coins;
    }

    private static void lawVariables() {
        says("terms: ends, heads: how many in the WAY (0 without); tons: of its PIECES together (0); dust; turn; left");
        String text = "head h 9; root r 9; ending b 9; word hrbb; word r; word zzzzzzzz; word hr; word rb; word b; word hrb; word z; word rr; word hb;";
        dueAll("ends", brought(text, "ends"), 2, 0, 0, 0, 1, 0, 1, 0, 0, 0);
        dueAll("heads", brought(text, "heads"), 1, 0, 0, 1, 0, 0, 1, 0, 0, 0);
        dueAll("tons", brought(text, "tons"), 36, 9, 0, 18, 18, 0, 27, 0, 0, 0);
        dueAll("dust", brought(text, "dust"), 0, 0, 8, 0, 0, 1, 0, 1, 2, 2);
        dueAll("turn", brought(text, "turn"), 0, 1, 2, 3, 4, 5, 6, 7, 8, 9);
        dueAll("left", brought(text, "left"), 10, 9, 8, 7, 6, 5, 4, 3, 2, 1);
        WordMill told = mill(text);
        dueAll("tons, if not told", new int[] {told.grind(0), told.grind(2), told.grind(1)}, 36, 0, 9);
        WordMill dying = mill("word a; word a; word b; brings = turn * 10 + left;");
        dying.centuries(1);
        dueAll("one that DIED is not whole, nor was it GROUND", new int[] {dying.grind(2), dying.grind(0)}, 2, 11);
        dying.undo();
        dying.undo();
        due("what is undone is not GROUND", dying.grind(0), 2);
    }

    /** What a word of one letter, which comes to dust, brings. */
    private static void law(String law, int coins) {
        WordMill mill = mill("word q; brings = " + law + ";");
        due("brings = " + law, mill.grind(0), coins);
        due("COINS of " + law, mill.count(8), coins);
    }

    private static void lawHeld() {
        says("terms: COINS come as BRINGS tells (held to 0 .. 999)");
        law("0 - 9999", 0);
        law("0 - 1", 0);
        law("0", 0);
        law("1", 1);
        law("998", 998);
        law("999", 999);
        law("1000", 999);
        law("9999", 999);
        law("2048 * 1024 * 1024", 0);
        law("2048 * 1024 * 1024 - 1", 999);
        says("terms: held each time, not together");
        dueAll("999 three times", brought("word a; word b; word c;", "9999"), 999, 999, 999);
        WordMill mill = mill("word a; word b; word c; brings = 1000 - turn * 2000;");
        dueAll("nothing goes", new int[] {mill.grind(0), mill.grind(1), mill.count(8)}, 999, 0, 999);
    }

    private static void lawIfs() {
        says("terms: the E of the first if that holds (one less than the other), else the last one");
        law("if 0 < 1 then 7 else 8", 7);
        law("if 1 < 1 then 7 else 8", 8);
        law("if 1 < 0 then 7 else 8", 8);
        law("if 0 - 1 < 0 then 7 else 8", 7);
        law("if 0 < 0 - 1 then 7 else 8", 8);
        law("if 9998 < 9999 then 7 else 8", 7);
        for (int holds = 0; holds <= 4; holds++) {
            StringBuilder s = new StringBuilder();
            for (int i = 0; i < 4; i++) {
                s.append("if ").append(i < holds ? "1 < 1" : "1 < 2").append(" then ").append(i + 1).append(" else ");
            }
            law(s + "5", holds + 1);
        }
        says("terms: ( within one another, six deep");
        law("((((((7))))))", 7);
        law("2 * (1 + 2 * (1 + 2 * (1 + 2 * (1 + 2 * (1 + 2 * (1))))))", 126);
        law("20 - (10 - (5 - (3 - (2 - (1)))))", 13);
        law("if ((((((1)))))) < ((((((2)))))) then ((((((3)))))) else ((((((4))))))", 3);
    }

    private static void lawWraps() {
        says("terms: ints of 32 bits that wrap");
        String least = "2048 * 1024 * 1024";
        law("if 2047 * 1024 * 1024 < 0 then 7 else 8", 8);
        law("if " + least + " < 0 then 7 else 8", 7);
        law("if " + least + " - 1 < 0 then 7 else 8", 8);
        law("if " + least + " - 1 + 1 < 0 then 7 else 8", 7);
        law("if 0 - " + least + " < 0 then 7 else 8", 7);
        law("if " + least + " < " + least + " - 1 then 7 else 8", 7);
        law("if " + least + " - 1 < " + least + " then 7 else 8", 8);
        law("if " + least + " / (0 - 1) < 0 then 7 else 8", 7);
        law("(" + least + ") * (0 - 1) / 1024 / 1024 + 2050", 2);
        law("4096 * 1024 * 1024", 0);
        law("4096 * 1024 * 1024 + 5", 5);
        law("9999 * 9999 * 43 / 1000 / 1000", 4);
        says("terms: / rounded towards 0");
        law("(0 - 7) / 2 + 10", 7);
        law("7 / (0 - 2) + 10", 7);
        law("(0 - 7) / (0 - 2) + 10", 13);
        law("(0 - 1) / 2 + 5", 5);
        law("1 / 2 + 5", 5);
        law("0 / 9999 + 5", 5);
        law("7 / 7 + 5", 6);
    }

    private static void lawDividedByNothing() {
        says("terms: a LAW in which something that is looked at is divided by 0 is 0");
        law("1 / 0", 0);
        law("0 / 0", 0);
        law("9 + 1 / 0", 0);
        law("9 + 0 * (1 / 0)", 0);
        law("9 + 1 / (1 / 2)", 0);
        law("if 1 / 0 < 1 then 7 else 8", 0);
        law("if 1 < 1 / 0 then 7 else 8", 0);
        law("if 1 < 2 then 1 / 0 else 8", 0);
        law("if 2 < 1 then 7 else 8 / 0", 0);
        law("if 2 < 1 then 7 else if 1 < 1 / 0 then 7 else 9", 0);
        law("if 0 < 1 + 1 / 0 then 7 else 9", 0);
        law("if 2 < 1 then 7 else if 2 < 1 then 7 else if 2 < 1 then 7 else if 1 / 0 < 1 then 7 else 9", 0);
        says("terms: what is not looked at may be divided by 0");
        law("if 1 < 2 then 7 else 8 / 0", 7);
        law("if 2 < 1 then 7 / 0 else 8", 8);
        law("if 1 < 2 then 7 else if 1 / 0 < 1 then 8 else 9", 7);
        law("if 2 < 1 then 1 / 0 else if 1 < 2 then 6 else if 1 < 1 / 0 then 8 else 9 / 0", 6);
        law("1 / 0; brings = 5", 5);
        dueAll("one word's alone", brought("word a; word b; word c;", "12 / (turn - 1) + 20"), 8, 0, 32);
    }

    private static void sold() {
        says("promise 16: false, and nothing happens: not enough, sold already, no such LAND");
        WordMill mill = mill("root a 1; ending b 1; head c 1; word cabb; word ab; word a; land 0 a 2 b 3; land 999 c 1; land 5; land 6 a 99; land 7 c 2;");
        due("nothing in stock", mill.sell(1), false);
        due("nothing happened", mill.count(13), 0);
        mill.grind(0);
        String before = goingOn(mill);
        dueAll("one too few of two", new int[] {mill.sell(0) ? 1 : 0, mill.sell(4) ? 1 : 0, mill.sell(3) ? 1 : 0}, 0, 0, 0);
        dueAll("no such", new int[] {mill.sell(5) ? 1 : 0, mill.sell(-1) ? 1 : 0, mill.sell(32) ? 1 : 0, mill.sell(LEAST) ? 1 : 0,
            mill.sell(MOST) ? 1 : 0}, 0, 0, 0, 0, 0);
        due("nothing happened", goingOn(mill), before);
        mill.grind(1);
        due("just enough, for nothing", mill.sell(0), true);
        dueAll("behind it", new int[] {mill.stock(0, 0), mill.stock(1, 0), mill.stock(2, 0), mill.count(8), mill.count(11)}, 0, 0, 1, 6, 1);
        due("just enough, for the most", mill.sell(1), true);
        dueAll("behind it", new int[] {mill.stock(2, 0), mill.count(8), mill.count(11), mill.count(15)}, 0, 1005, 3, 0);
        due("it WANTS nothing", mill.sell(2), true);
        mill.grind(2);
        before = goingOn(mill);
        dueAll("sold already", new int[] {mill.sell(0) ? 1 : 0, mill.sell(1) ? 1 : 0, mill.sell(2) ? 1 : 0}, 0, 0, 0);
        due("nothing happened", goingOn(mill), before);
        WordMill part = mill("root a 1; root b 1; word a; land 9 a 1 b 1;");
        part.grind(0);
        due("enough of one of two", part.sell(0), false);
        due("none of it goes", part.stock(0, 0), 1);
    }

    // ---- promise 17

    private static void centuries() {
        says("promise 17: n CENTURIES (0 .. 100; 0 is no thing done); NONE, and nothing happens: no such n");
        WordMill mill = mill("stone a to b; word a; word b;");
        String before = goingOn(mill);
        dueAll("no such n", new int[] {mill.centuries(-1), mill.centuries(101), mill.centuries(LEAST), mill.centuries(MOST)},
            NONE, NONE, NONE, NONE);
        due("0", mill.centuries(0), 0);
        due("nothing happened", goingOn(mill), before);
        due("undo", mill.undo(), false);
        due("1", mill.centuries(1), 1);
        dueAll("one thing done", new int[] {mill.count(13), mill.count(7), mill.word(1, 9)}, 1, 1, 2);
        due("100", mill.centuries(100), 101);
        due("0", mill.centuries(0), 101);
        dueAll("one thing done", new int[] {mill.count(13), mill.count(7)}, 2, 101);
        due("undo", mill.undo(), true);
        due("all hundred are undone", mill.count(7), 1);
    }

    /** The document's LOT, in numbers that do not wrap of themselves. */
    private static int lot(int n, int seed, int which) {
        long h = seed;
        for (long it : new long[] {31, which}) {
            h = ((h ^ it) * 1103515245L + 12345L) % (1L << 32);
            h = h ^ h / (1L << 15);
        }
        return (int) (h / 2 % n);
    }

    private static void lots() {
        says("terms: LOT n of the SEED and the century tells which STONE");
        StringBuilder stones = new StringBuilder();
        for (int n = 1; n <= 7; n++) {
            stones.append("stone a to ").append((char) ('a' + n)).append("; ");
            for (int seed : new int[] {0, 1, 53, 4711, 9998, 9999}) {
                WordMill mill = mill(stones + "word a; seed " + seed + ";");
                mill.centuries(1);
                due("century 0 of " + n + " stones, seed " + seed, mill.word(0, 0), 2 + lot(n, seed, 0));
            }
        }
        says("terms: the SEED and the century, then it is the next one");
        for (int seed : new int[] {0, 9999}) {
            WordMill mill = mill(CHAIN.replace("g to h", "g to a") + "word abcdefg; seed " + seed + ";");
            mill.turn(3);
            mill.swap(1, 5);
            String word = "abcdefg";
            for (int n = 1; n <= 300; n++) {
                int stone = lot(7, seed, n - 1);
                word = word.replace((char) ('a' + stone), (char) ('a' + (stone + 1) % 7));
                due("behind century " + n, mill.future(0, n, n % 7), word.charAt(n % 7) - 'a' + 1);
            }
            due("three times a hundred", mill.centuries(100) + mill.centuries(100) + mill.centuries(100), 600);
            due("behind century 300", wordOf(mill, 0), word);
        }
    }

    private static void deaths() {
        says("terms: takes all WORDS that are whole, for good; who has no letter left DIES");
        WordMill mill = mill("stone a to none; word a; word a; word b; word ab; word ba; word c; word ca;");
        mill.turn(0);
        mill.grind(6);
        mill.centuries(1);
        dueAll("fates", fates(mill), 2, 2, 0, 2, 2, 0, 1);
        dueAll("letters", new int[] {mill.word(0, 8), mill.word(1, 8), mill.word(2, 8), mill.word(3, 8), mill.word(4, 8), mill.word(6, 8)},
            0, 0, 1, 1, 1, 2);
        dueAll("whole", new int[] {mill.count(10), mill.left(0)}, 2, 36);
        mill.centuries(100);
        dueAll("for good", fates(mill), 2, 2, 0, 2, 2, 0, 1);
        says("terms: none without STONES");
        WordMill bare = mill("word ab; word b; word ab; word ab;");
        bare.centuries(1);
        dueAll("alike ones DIE all the same", fates(bare), 0, 0, 2, 2);
        due("as it was", wordOf(bare, 0), "ab");
        due("no word", mill("stone a to b;").centuries(7), 7);
    }

    private static void deathsOfAlikeOnes() {
        says("terms: WORD by WORD, who is as a WORD of a lesser number that is whole, DIES");
        WordMill mill = mill("stone x to none after edge; word a; word a; word xxa; word b; word ab; word ba; word a;");
        mill.centuries(1);
        dueAll("the lesser one stays", fates(mill), 0, 2, 0, 0, 0, 0, 2);
        mill.grind(0);
        mill.centuries(1);
        dueAll("neither as one GROUND nor as one that DIED", fates(mill), 1, 2, 0, 0, 0, 0, 2);
        due("alike", wordOf(mill, 2), "a");
        says("terms: who is GROUND is whole no more, and does not DIE");
        WordMill ground = mill("stone x to none; word a; word a; word xa; word b;");
        ground.grind(1);
        ground.centuries(3);
        dueAll("GROUND as a WORD of a lesser number is", fates(ground), 0, 1, 2, 0);
        due("nor by centuries to come", ground.future(1, 300, 9), 1);
        says("terms: a WORD of a greater number is none");
        WordMill greater = mill("stone x to none; word a; word xa;");
        greater.centuries(1);
        dueAll("the greater one", fates(greater), 0, 2);
        WordMill last = mill("stone x to none; word xa; word b; word c; word d; word e; word f; word g; word h; word i; word a;");
        last.centuries(1);
        dueAll("the last of ten", fates(last), 0, 0, 0, 0, 0, 0, 0, 0, 0, 2);
        WordMill prefix = mill("word a; word ab; word b; word ba; word aa; word abcdefgh; word abcdefg;");
        prefix.centuries(1);
        due("a part is not alike", prefix.count(10), 7);
    }

    // ---- promises 18 and 19

    private static void undone() {
        says("promise 18: the last thing done (turn, swap, grind, sell, centuries) is undone; false: there is none");
        WordMill mill = mill("stone b to a; stone c to none; root a 2; word a; word c; word bc; land 7 a 1; seed 1;");
        String[] ahead = new String[6];
        for (int n = 0; n < 5; n++) {
            ahead[n] = goingOn(mill);
            boolean done = n == 0 ? mill.turn(0) : n == 1 ? mill.swap(0, 1) : n == 2 ? mill.grind(0) == 2 : n == 3 ? mill.sell(0)
                : mill.centuries(3) == 3;
            due("thing " + n, done, true);
            due("things done", mill.count(13), n + 1);
        }
        for (int n = 4; n >= 0; n--) {
            due("undo", mill.undo(), true);
            due("as it was ahead of thing " + n, goingOn(mill), ahead[n]);
        }
        due("there is none", mill.undo(), false);
        due("as it was", goingOn(mill), ahead[0]);
    }

    /** Seven stones, ten words and all pieces; of each piece some word is made. */
    private static final String FULL = "stone t to u; stone u to v; stone v to w; stone w to x; stone x to y; stone y to z; stone z to none;"
        + "head p 1; head q 2; head r 3; head s 4; root a 1; root b 2; root c 3; root d 4; root e 5; root f 6; root g 7; root h 8;"
        + "ending i 1; ending j 2; ending k 3; ending l 4; ending m 5; ending n 6;"
        + "word paij; word qbkl; word rcmn; word sdi; word ej; word fkk; word gl; word hm; word zoo; word tua;"
        + "land 10 a 1; land 20 b 1 l 1 q 1; land 30 k 1 m 1; land 40 p 1 c 1; land 999 d 1 s 1; brings = tons + dust; seed 4711;";
    private static final int FULL_THINGS = 30;

    /** The n-th of thirty things: centuries, each stone turned, each two places swapped, words ground, each land sold to. */
    private static boolean thing(WordMill mill, int n) {
        if (n == 0 || n == FULL_THINGS - 1) {
            return mill.centuries(1 + n) == (n == 0 ? 1 : 1 + FULL_THINGS);
        }
        if (n <= 9) {
            return mill.grind(n - 1) >= 0;
        }
        if (n <= 14) {
            return mill.sell(n - 10);
        }
        return n <= 21 ? mill.turn(n - 15) : mill.swap(n - 22, (n - 21) % 7);
    }

    private static WordMill things(int n) {
        WordMill mill = new WordMill();
        due("read", read(mill, FULL), 0);
        for (int i = 0; i < n; i++) {
            due("thing " + i, thing(mill, i), true);
        }
        return mill;
    }

    private static void everyPartUndone() {
        says("promises 18, 40, 41: all that goes on is undone, is held, is gone on from");
        String[] ahead = new String[FULL_THINGS + 1];
        for (int n = 0; n <= FULL_THINGS; n++) {
            ahead[n] = asItIs(things(n));
            due("thing " + n + " does something", n == 0 || !ahead[n].equals(ahead[n - 1]), true);
        }
        for (int n = 0; n < FULL_THINGS; n++) {
            WordMill one = things(n + 1);
            due("undo", one.undo(), true);
            due("thing " + n + " undone", asItIs(one), ahead[n]);
            WordMill all = things(FULL_THINGS);
            for (int i = FULL_THINGS; i > n; i--) {
                due("undo", all.undo(), true);
            }
            due("all from thing " + n + " on undone", asItIs(all), ahead[n]);
            WordMill held = things(n);
            held.hold(n % 3);
            for (int i = n; i < FULL_THINGS; i++) {
                thing(held, i);
            }
            due("restore", held.restore(n % 3), true);
            due("held ahead of thing " + n, asItIs(held), ahead[n]);
        }
    }

    private static void undoneThirty() {
        says("promise 18: the last 30 can be");
        WordMill mill = mill("stone a to b;");
        for (int n = 1; n <= 29; n++) {
            mill.centuries(1);
        }
        due("29", mill.count(13), 29);
        mill.centuries(1);
        due("30", mill.count(13), 30);
        mill.centuries(1);
        due("31", mill.count(13), 30);
        for (int n = 30; n >= 1; n--) {
            due("undo", mill.undo(), true);
            due("century", mill.count(7), n);
        }
        due("the 31st", mill.undo(), false);
        due("the first one stays", mill.count(7), 1);
        for (int n = 1; n <= 95; n++) {
            mill.centuries(1);
            if (n % 3 == 0) {
                due("undo", mill.undo(), true);
            }
        }
        dueAll("64 stand", new int[] {mill.count(7), mill.count(13)}, 65, 30);
        for (int n = 0; n < 30; n++) {
            mill.undo();
        }
        dueAll("30 of them are undone", new int[] {mill.count(7), mill.count(13), mill.undo() ? 1 : 0}, 35, 0, 0);
    }

    private static void stock() {
        says("promise 19: sort 0 ROOTS, 1 ENDINGS, 2 HEADS; NONE: no such ones");
        WordMill mill = mill("root a 1; ending a 1; ending b 1; head a 1; head b 1; head c 1; word cabb;");
        dueAll("none yet", new int[] {mill.stock(0, 0), mill.stock(1, 1), mill.stock(2, 2)}, 0, 0, 0);
        mill.grind(0);
        dueAll("of each", new int[] {mill.stock(0, 0), mill.stock(1, 0), mill.stock(1, 1), mill.stock(2, 0), mill.stock(2, 2)}, 1, 0, 2, 0, 1);
        dueAll("no such PIECE", new int[] {mill.stock(0, 1), mill.stock(1, 2), mill.stock(2, 3), mill.stock(0, -1), mill.stock(1, -1),
            mill.stock(2, -1), mill.stock(0, 8), mill.stock(1, LEAST), mill.stock(2, MOST)},
            NONE, NONE, NONE, NONE, NONE, NONE, NONE, NONE, NONE);
        dueAll("no such sort", new int[] {mill.stock(3, 0), mill.stock(-1, 0), mill.stock(LEAST, 0), mill.stock(MOST, 0)},
            NONE, NONE, NONE, NONE);
    }

    // ---- promise 20

    private static int[] madeRow(WordMill mill, int n) {
        return new int[] {mill.made(n, 0), mill.made(n, 1), mill.made(n, 2)};
    }

    private static void made() {
        says("promise 20: MADE of n letters (1 .. 12); NONE: no such ones");
        WordMill mill = mill("head abcd 1; root efghijkl 1; root m 1;");
        dueAll("of 1", madeRow(mill, 1), 1, 0, -2);
        dueAll("of 2", madeRow(mill, 2), 0, 0, -2);
        dueAll("of 5", madeRow(mill, 5), 1, 0, -2);
        dueAll("of 8", madeRow(mill, 8), 1, 0, -2);
        dueAll("of 11", madeRow(mill, 11), 0, 0, -2);
        dueAll("of 12", madeRow(mill, 12), 1, 0, -2);
        for (int n : new int[] {0, 13, -1, 32, LEAST, MOST}) {
            dueAll("of " + n, madeRow(mill, n), NONE, NONE, NONE);
        }
        dueAll("no such what", new int[] {mill.made(1, -1), mill.made(1, 3), mill.made(12, LEAST), mill.made(12, MOST), mill.made(0, 3)},
            NONE, NONE, NONE, NONE, NONE);
        WordMill longer = mill("head abcdefgh 1; root abcde 1; root abcdefgh 1; ending abcdefgh 1;");
        dueAll("13 are no 12", madeRow(longer, 12), 0, 0, -2);
        dueAll("nor 5", madeRow(longer, 5), 1, 0, -2);
        says("terms: all HEADS, ROOTS, ENDINGS, whatever STONES");
        WordMill stones = mill("stone a to none; root a 1; ending a 1; word b;");
        dueAll("of 1", madeRow(stones, 1), 1, 0, -2);
        dueAll("of 3", madeRow(stones, 3), 1, 0, -2);
        dueAll("of 4", madeRow(stones, 4), 0, 0, -2);
        dueAll("no ROOT", madeRow(mill("head a 1; ending a 1;"), 2), 0, 0, -2);
        StringBuilder full = new StringBuilder();
        for (int i = 0; i < 8; i++) {
            full.append("root r").append((char) ('a' + i)).append(" 1; ");
            full.append(i < 6 ? "ending e" + (char) ('a' + i) + " 1; " : "").append(i < 4 ? "head h" + (char) ('a' + i) + " 1; " : "");
        }
        WordMill all = mill(full.toString());
        dueAll("all unlike", new int[] {all.made(2, 0), all.made(4, 0), all.made(6, 0), all.made(8, 0), all.made(8, 1), all.made(8, 2)},
            8, 8 * 6 + 4 * 8, 8 * 36 + 4 * 8 * 6, 4 * 8 * 36, 0, -2);
    }

    private static void madeTwice() {
        says("terms: TWICE: by two WAYS or more; the first WAY (by its number) that makes one that another one makes too");
        WordMill mill = mill("root a 1; root ab 1; ending b 1;");
        dueAll("one WAY", madeRow(mill, 1), 1, 0, -2);
        dueAll("two WAYS", madeRow(mill, 2), 1, 1, 110);
        dueAll("two WAYS", madeRow(mill, 3), 1, 1, 111);
        dueAll("one WAY", madeRow(mill, 4), 1, 0, -2);
        WordMill more = mill("head a 1; root a 1; root aa 1; ending a 1;");
        dueAll("three WAYS", madeRow(more, 2), 1, 1, 110);
        dueAll("four WAYS", madeRow(more, 3), 1, 1, 111);
        dueAll("three WAYS", madeRow(more, 4), 1, 1, 211);
        dueAll("one WAY", madeRow(more, 5), 1, 0, -2);
        WordMill late = mill("head x 1; head y 1; root q 1; root b 1; root yb 1; root z 1;");
        dueAll("the lesser of the two", madeRow(late, 2), 6, 1, 300);
        WordMill last = mill("head x 1; root ab 1; root a 1; ending b 1;");
        dueAll("by the last ENDING", madeRow(last, 2), 2, 1, 100);
        dueAll("behind a HEAD too", madeRow(last, 3), 2, 2, 110);
        WordMill behind = mill("head x 1; head y 1; head p 1; head pr 1; root ra 1; root a 1; ending c 1; ending d 1;");
        // Two by ra and one ENDING, four by a and two, three behind each of x, y, p; pra by pr, too.
        dueAll("behind the third and the fourth HEAD", madeRow(behind, 3), 15, 1, 3100);
        WordMill fourth = mill("head xxxxxxxx 1; head yyyyyyyy 1; head zzzzzzzz 1; head p 1; root ab 1; root a 1; ending b 1;");
        dueAll("abb and pab", madeRow(fourth, 3), 2, 2, 110);
        dueAll("abbb and, behind the fourth HEAD, pabb", madeRow(fourth, 4), 2, 1, 4110);
    }

    /** Each of six CLASSES is one that a STONE tells, ahead of its letter or behind it. */
    private static void eachClass() {
        says("terms: one of a CLASS: each of six");
        String[] letters = {"ab", "cd", "ef", "gh", "ij", "kl"};
        StringBuilder classes = new StringBuilder();
        for (int c = 0; c < 6; c++) {
            classes.append("class is").append(letters[c]).append(' ').append(letters[c]).append("; ");
        }
        for (int c = 0; c < 6; c++) {
            for (int l = 0; l < 12; l++) {
                String letter = String.valueOf((char) ('a' + l));
                String left = l / 2 == c ? "y" : "z";
                WordMill after = mill(classes + "stone z to y after is" + letters[c] + "; word " + letter + "z;");
                due("CLASS " + c + " ahead", runOf(after, 0), letter + left);
                WordMill before = mill(classes + "stone z to y before is" + letters[c] + "; word z" + letter + ";");
                due("CLASS " + c + " behind", runOf(before, 0), left + letter);
            }
        }
    }

    // ---- promises 21 to 24

    private static void pairs() {
        says("promise 21: (1, 0), -2: it does not tell that; NONE: no such one");
        WordMill mill = mill("stone a to b; pair a b a; " + times(6, "pair a a b; ") + "pair ab bb;");
        dueAll("the first", new int[] {mill.pair(0, false), mill.pair(0, true)}, 1, 0);
        dueAll("one within", new int[] {mill.pair(3, false), mill.pair(3, true)}, 0, 1);
        dueAll("the last", new int[] {mill.pair(7, false), mill.pair(7, true)}, 1, -2);
        for (int none : new int[] {8, -1, LEAST, MOST}) {
            dueAll("no such: " + none, new int[] {mill.pair(none, false), mill.pair(none, true)}, NONE, NONE);
        }
        mill.turn(0);
        dueAll("none ON", new int[] {mill.pair(0, false), mill.pair(0, true), mill.pair(7, true)}, 0, 1, -2);
        says("promise 21: nothing comes out as told never");
        WordMill nothing = mill("stone a to none; pair a b a;");
        dueAll("of nothing", new int[] {nothing.pair(0, false), nothing.pair(0, true)}, 0, 0);
    }

    private static void orders() {
        says("promise 22: NONE: no such k");
        WordMill mill = mill(CHAIN + times(7, "pair z z; ") + "pair a h;");
        for (int k = 0; k <= 7; k++) {
            due("orders(" + k + ")", mill.orders(k), 5040);
        }
        due("all eight", mill.orders(8), 1);
        dueAll("no such k", new int[] {mill.orders(9), mill.orders(-1), mill.orders(LEAST), mill.orders(MOST)}, NONE, NONE, NONE, NONE);
        for (int on = 6; on >= 0; on--) {
            mill.turn(on);
            due("with " + on + " ON", mill.orders(0), on < 2 ? 1 : new int[] {2, 6, 24, 120, 720}[on - 2]);
            due("none comes out so", mill.orders(8), 0);
        }
        WordMill none = mill("pair a a; pair a b;");
        dueAll("without stones", new int[] {none.orders(0), none.orders(1), none.orders(2), none.orders(3)}, 1, 1, 0, NONE);
        says("terms: ORDERS: of some that leave the same the first, too");
        WordMill same = mill("stone q to r; stone r to s; stone r to t; stone z to y; pair q t;");
        dueAll("0 2 1 and 1 0 2, with 3 anywhere", new int[] {same.orders(1), same.orderAt(1, 0), same.orderAt(1, 1), same.orderAt(1, 2),
            same.orderAt(1, 3), same.swaps(1)}, 8, 0, 2, 1, 3, 1);
    }

    private static void orderAt() {
        says("promise 23: NONE (looked at first): no such k, i below 0; -2: there is none; NONE: not so many");
        WordMill mill = mill(CHAIN + "pair a h; pair a b;");
        for (int i = 0; i < 7; i++) {
            dueAll("orderAt(.., " + i + ")", new int[] {mill.orderAt(0, i), mill.orderAt(1, i), mill.orderAt(2, i)}, i, i, -2);
        }
        dueAll("not so many", new int[] {mill.orderAt(0, 7), mill.orderAt(1, 7), mill.orderAt(1, MOST)}, NONE, NONE, NONE);
        dueAll("there is none", new int[] {mill.orderAt(2, 7), mill.orderAt(2, MOST)}, -2, -2);
        dueAll("looked at first", new int[] {mill.orderAt(2, -1), mill.orderAt(2, LEAST), mill.orderAt(3, 0), mill.orderAt(-1, 0),
            mill.orderAt(3, -1), mill.orderAt(LEAST, 0), mill.orderAt(MOST, 0), mill.orderAt(0, -1)},
            NONE, NONE, NONE, NONE, NONE, NONE, NONE, NONE);
        mill.turn(0);
        dueAll("six ON", new int[] {mill.orderAt(0, 0), mill.orderAt(0, 5), mill.orderAt(0, 6), mill.orderAt(1, 0)}, 1, 6, NONE, -2);
        for (int stone = 1; stone < 7; stone++) {
            mill.turn(stone);
        }
        dueAll("none ON", new int[] {mill.orderAt(0, 0), mill.orderAt(0, -1), mill.orderAt(1, 0)}, NONE, NONE, -2);
        says("terms: ORDERS: the first one by numbers, place by place");
        WordMill first = mill("stone c to d; stone b to c; stone a to b; stone a to z; pair a d;");
        dueAll("2 1 0 3", new int[] {first.orders(1), first.orderAt(1, 0), first.orderAt(1, 1), first.orderAt(1, 2), first.orderAt(1, 3)},
            3, 2, 1, 0, 3);
    }

    private static void swaps() {
        says("promise 24: -2: there is none; NONE: no such k");
        WordMill mill = mill(CHAIN + "pair a h; pair a b;");
        dueAll("swaps", new int[] {mill.swaps(0), mill.swaps(1), mill.swaps(2), mill.swaps(3), mill.swaps(-1), mill.swaps(LEAST),
            mill.swaps(MOST)}, 0, 0, -2, NONE, NONE, NONE, NONE);
        mill.swap(3, 4);
        due("two beside one another", mill.swaps(1), 1);
        mill.swap(3, 4);
        for (int p = 0; p < 3; p++) {
            mill.swap(p, 6 - p);
        }
        dueAll("the most", new int[] {mill.swaps(0), mill.swaps(1)}, 0, 21);
        says("terms: SWAPS: STONES that are ON alone");
        WordMill off = mill("stone b to c; stone q to r; stone a to b; pair a c;");
        due("over one that is ON", off.swaps(1), 2);
        off.turn(1);
        due("over one that is not", off.swaps(1), 1);
        due("without stones", mill("pair a a;").swaps(1), 0);
        due("without stones", mill("pair a b;").swaps(1), -2);
    }

    // ---- promises 25 to 28

    private static void sets() {
        says("promise 25: what 0 how many, 1 the least bits (-2: there is none); NONE: no such ones");
        WordMill mill = mill(CHAIN + "pair z z; pair a h; pair a b;");
        dueAll("how many", new int[] {mill.sets(0, false, 0), mill.sets(1, false, 0), mill.sets(2, false, 0), mill.sets(3, false, 0)},
            128, 128, 1, 0);
        dueAll("the least bits", new int[] {mill.sets(0, false, 1), mill.sets(1, false, 1), mill.sets(2, false, 1), mill.sets(3, false, 1)},
            0, 0, 127, -2);
        for (int k : new int[] {4, -1, LEAST, MOST}) {
            dueAll("no such k: " + k, new int[] {mill.sets(k, false, 0), mill.sets(k, false, 1), mill.sets(k, true, 0), mill.sets(k, true, 1)},
                NONE, NONE, NONE, NONE);
        }
        for (int what : new int[] {2, -1, LEAST, MOST}) {
            dueAll("no such what: " + what, new int[] {mill.sets(0, false, what), mill.sets(3, true, what)}, NONE, NONE);
        }
        WordMill none = mill("pair a a; pair a b;");
        dueAll("without stones", new int[] {none.sets(0, false, 0), none.sets(1, false, 0), none.sets(1, false, 1), none.sets(2, false, 0),
            none.sets(2, false, 1)}, 1, 1, 0, 0, -2);
        WordMill least = mill("stone q to r; stone a to b; stone a to b; pair a b;");
        dueAll("of some the least", new int[] {least.sets(1, false, 0), least.sets(1, false, 1)}, 6, 2);
        says("terms: SETS: each STONE takes once, whatever stands ahead of it in the order");
        WordMill once = mill("stone a to none after edge; stone b to none before edge; pair aaa aa; pair bbb bb; pair aaa a;");
        for (int n = 0; n < 2; n++) {
            dueAll("once", new int[] {once.sets(1, false, 0), once.sets(1, false, 1), once.sets(2, false, 0), once.sets(2, false, 1),
                once.sets(3, false, 0)}, 2, 1, 1, 3, 0);
            once.swap(0, 1);
        }
    }

    private static void setsInTheOtherTongue() {
        says("terms: OTHER tongue: PAIRS that tell it: SETS likewise");
        WordMill mill = mill("stone a to b; stone b to c; pair a z; pair a z b; pair b z; pair b z c;");
        dueAll("how many", new int[] {mill.sets(0, true, 0), mill.sets(1, true, 0), mill.sets(2, true, 0), mill.sets(3, true, 0),
            mill.sets(4, true, 0)}, 4, 4, 1, 1, 0);
        dueAll("the least bits", new int[] {mill.sets(0, true, 1), mill.sets(1, true, 1), mill.sets(2, true, 1), mill.sets(4, true, 1)},
            0, 0, 1, -2);
        dueAll("not the first tongue", new int[] {mill.sets(1, false, 0), mill.sets(1, false, 1)}, 0, -2);
        WordMill untold = mill(CHAIN + times(8, "pair a z; "));
        dueAll("none tells it", new int[] {untold.sets(8, true, 0), untold.sets(8, true, 1), untold.sets(9, true, 0)}, 128, 0, NONE);
        says("terms: SETS of STONES, in the order as it is");
        WordMill order = mill("stone a to b; stone b to c; pair a c c;");
        dueAll("as told", new int[] {order.sets(1, false, 0), order.sets(1, true, 0), order.sets(1, true, 1), order.parted(1)}, 1, 1, 3, 2);
        order.swap(0, 1);
        dueAll("swapped", new int[] {order.sets(1, false, 0), order.sets(1, true, 0), order.sets(1, true, 1), order.parted(1)}, 0, 0, -2, -2);
    }

    private static int[] listRow(WordMill mill) {
        return new int[] {mill.list(0), mill.list(1), mill.list(2)};
    }

    private static void list() {
        says("promise 26: NONE for others");
        WordMill mill = mill("stone a to b; pair a b;");
        dueAll("no such what", new int[] {mill.list(-1), mill.list(3), mill.list(LEAST), mill.list(MOST)}, NONE, NONE, NONE, NONE);
        says("terms: LIST: least together");
        dueAll("no PAIRS, no STONES", listRow(mill("word a;")), 0, 0, 0);
        dueAll("no PAIRS", listRow(mill(CHAIN)), 0, 0, 0);
        dueAll("no STONES", listRow(mill(times(7, "pair a b; ") + "pair a bbbbbbbb;")), 7 * 2 + 9, 0, 255);
        dueAll("none beside", listRow(mill(times(8, "pair a a; ") + "stone b to a;")), 0, 0, 0);
        dueAll("all seven", listRow(mill(CHAIN + times(3, "pair aaaaaaaa hhhhhhhh; "))), 21, 127, 0);
        dueAll("one PAIR less", listRow(mill(CHAIN + times(2, "pair aaaaaaaa hhhhhhhh; "))), 18, 0, 3);
        says("terms: LIST: of alike ones the fewest STONES, then the least bits");
        dueAll("a STONE or a PAIR of two letters", listRow(mill("stone a to b; pair aa bb;")), 3, 0, 1);
        dueAll("a PAIR of three", listRow(mill("stone a to b; pair aaa bbb;")), 3, 1, 0);
        dueAll("a PAIR of one", listRow(mill("stone a to b; pair a b;")), 2, 0, 1);
        dueAll("either STONE", listRow(mill("stone q to r; stone a to b; stone a to b; pair aaa bbb;")), 3, 2, 0);
        dueAll("two STONES or two PAIRS", listRow(mill("stone a to b; stone c to d; pair aa bb; pair cc dd;")), 6, 0, 3);
        dueAll("one of more bits", listRow(mill("stone a to b; stone c to d; stone e to f; pair acacac bdbdbd; pair eea ffa;")), 10, 4, 1);
        mill.turn(0);
        dueAll("ON or not", listRow(mill("stone a to b; pair aaaa bbbb;")), 3, 1, 0);
    }

    private static void next() {
        says("promise 27: -2: no PAIR from k on, no SET FITS; NONE: no such ones");
        WordMill mill = mill(APART + "pair a h; pair z z; pair abcdefg abcdefg; pair gfedcba gfedcba;");
        dueAll("of most sorts", new int[] {mill.next(0, 0), mill.next(0, 1), mill.next(1, 0), mill.next(1, 1), mill.next(2, 0), mill.next(2, 1)},
            2, 128, 2, 64, 2, 64);
        dueAll("no SET FITS", new int[] {mill.next(3, 0), mill.next(3, 1)}, -2, -2);
        dueAll("no PAIR from k on", new int[] {mill.next(4, 0), mill.next(4, 1)}, -2, -2);
        dueAll("no such k", new int[] {mill.next(5, 0), mill.next(-1, 0), mill.next(LEAST, 1), mill.next(MOST, 1)}, NONE, NONE, NONE, NONE);
        dueAll("no such what", new int[] {mill.next(0, 2), mill.next(0, -1), mill.next(0, LEAST), mill.next(0, MOST)}, NONE, NONE, NONE, NONE);
        says("terms: NEXT: of alike ones the first");
        WordMill alike = mill("stone a to b; pair z z; pair y y; pair a b; pair a a;");
        dueAll("two sorts", new int[] {alike.next(0, 0), alike.next(0, 1), alike.next(3, 0), alike.next(3, 1)}, 2, 2, 3, 1);
        WordMill one = mill("pair z z; pair y y;");
        dueAll("one sort, without stones", new int[] {one.next(0, 0), one.next(0, 1), one.next(1, 0), one.next(2, 0)}, 0, 1, 1, -2);
        dueAll("no PAIRS at all", new int[] {mill("stone a to b;").next(0, 0), mill("stone a to b;").next(0, 1)}, -2, -2);
        WordMill nothing = mill("stone a to none; pair b b; pair a a;");
        dueAll("nothing is a sort too", new int[] {nothing.next(0, 0), nothing.next(0, 1)}, 1, 2);
    }

    private static void parted() {
        says("promise 28: -2: there are no such SETS; NONE: no such k");
        WordMill mill = mill(CHAIN + "pair a h h; pair b h g; pair a z;");
        dueAll("all seven", new int[] {mill.parted(0), mill.parted(1)}, 7, 7);
        dueAll("no such SETS", new int[] {mill.parted(2), mill.parted(3)}, -2, -2);
        dueAll("no such k", new int[] {mill.parted(4), mill.parted(-1), mill.parted(LEAST), mill.parted(MOST)}, NONE, NONE, NONE, NONE);
        due("one tongue alone", mill("stone a to b; pair a b c;").parted(1), -2);
        due("the other alone", mill("stone a to b; pair a c b;").parted(1), -2);
        due("without stones", mill("pair a a a;").parted(1), 0);
        due("without PAIRS", mill(CHAIN).parted(0), 7);
        due("not the first one", mill("stone a to b; stone c to d; pair a b a;").parted(1), 0);
        WordMill six = mill(CHAIN + "pair a h g;");
        due("all but the last", six.parted(1), 6);
        six.turn(0);
        six.turn(6);
        due("all, ON or not", six.parted(1), 6);
        due("those that tell it", mill(CHAIN + "pair a h;").parted(1), 7);
    }

    // ---- promises 29 to 32

    private static void derived() {
        says("promise 29: how many STONES (i NONE), else the i-th; -2: not by 4; NONE (looked at first); NONE: not so many");
        WordMill mill = mill(CHAIN + "word a; word b; word e; word f; word a; word z;");
        dueAll("how many", new int[] {mill.derived(0, 0, NONE), mill.derived(0, 4, NONE), mill.derived(0, 1, NONE), mill.derived(0, 2, NONE),
            mill.derived(0, 3, NONE), mill.derived(1, 3, NONE), mill.derived(1, 0, NONE), mill.derived(0, 5, NONE)}, 0, 0, 1, 4, -2, 4, -2, -2);
        for (int i = 0; i < 4; i++) {
            due("the " + i + "-th of four", mill.derived(0, 2, i), i);
            due("the " + i + "-th of four", mill.derived(1, 3, i), i + 1);
            due("there is none", mill.derived(0, 3, i), -2);
        }
        dueAll("not so many", new int[] {mill.derived(0, 0, 0), mill.derived(0, 1, 1), mill.derived(0, 2, 4), mill.derived(0, 2, MOST)},
            NONE, NONE, NONE, NONE);
        dueAll("-2, however many", new int[] {mill.derived(0, 3, 4), mill.derived(0, 3, MOST)}, -2, -2);
        dueAll("i below NONE", new int[] {mill.derived(0, 3, -2), mill.derived(0, 3, LEAST), mill.derived(0, 0, -2)}, NONE, NONE, NONE);
        dueAll("no such WORDS", new int[] {mill.derived(6, 0, NONE), mill.derived(0, 6, NONE), mill.derived(-1, 3, 0), mill.derived(0, -1, 0),
            mill.derived(LEAST, 0, NONE), mill.derived(0, MOST, NONE)}, NONE, NONE, NONE, NONE, NONE, NONE);
        says("terms: DERIVED: ON or not");
        for (int stone = 0; stone < 7; stone++) {
            mill.turn(stone);
        }
        due("none ON", mill.derived(0, 2, NONE), 4);
        says("terms: DERIVED: any again; of alike ones by numbers, the first STONE first");
        WordMill again = mill("stone y to z; stone x to none after edge; stone x to none before edge; stone q to r; word xxxx; word x; word xxq; word r;");
        dueAll("1 1 1", new int[] {again.derived(0, 1, NONE), again.derived(0, 1, 0), again.derived(0, 1, 1), again.derived(0, 1, 2)}, 3, 1, 1, 1);
        dueAll("1 1 3", new int[] {again.derived(2, 3, NONE), again.derived(2, 3, 0), again.derived(2, 3, 1), again.derived(2, 3, 2)}, 3, 1, 1, 3);
        due("without stones", mill("word a; word a; word b;").derived(0, 1, NONE), 0);
        due("without stones", mill("word a; word a; word b;").derived(0, 2, NONE), -2);
    }

    private static void derivedToNothing() {
        says("terms: DERIVED: a WORD as it is to another one as that is, of nothing too");
        WordMill mill = mill("stone a to none after edge; word a; word aaaaa; word aaaaaa; word aaab;");
        mill.centuries(1);
        dueAll("letters left", new int[] {mill.word(0, 8), mill.word(1, 8), mill.word(2, 8), mill.word(3, 8)}, 0, 4, 5, 3);
        dueAll("to nothing", new int[] {mill.derived(0, 0, NONE), mill.derived(1, 0, NONE), mill.derived(1, 0, 3), mill.derived(2, 0, NONE),
            mill.derived(3, 0, NONE), mill.derived(2, 1, NONE)}, 0, 4, 0, -2, -2, 1);
        dueAll("from nothing", new int[] {mill.derived(0, 1, NONE), mill.derived(0, 3, 0)}, -2, -2);
    }

    private static void apart() {
        says("promise 30: NONE: no such WORDS");
        WordMill mill = mill("stone z to none; word abcdefgh; word ijklmnop; word a; word abcdefgz; word h; word zzz; word bcdefgha; word ab; word ba;");
        dueAll("no such", new int[] {mill.apart(9, 0), mill.apart(0, 9), mill.apart(-1, 0), mill.apart(0, -1), mill.apart(9, 9),
            mill.apart(LEAST, 0), mill.apart(0, MOST)}, NONE, NONE, NONE, NONE, NONE, NONE, NONE);
        says("terms: APART: how many letters must at least be put in, taken out, changed");
        dueAll("apart", new int[] {mill.apart(0, 0), mill.apart(0, 1), mill.apart(1, 0), mill.apart(0, 3), mill.apart(0, 2), mill.apart(2, 0),
            mill.apart(0, 4), mill.apart(2, 4), mill.apart(0, 6), mill.apart(7, 8), mill.apart(2, 7)}, 0, 8, 8, 1, 7, 7, 7, 1, 2, 2, 1);
        mill.centuries(1);
        dueAll("of nothing", new int[] {mill.word(5, 8), mill.apart(5, 0), mill.apart(0, 5), mill.apart(5, 2), mill.apart(5, 5)}, 0, 8, 8, 1, 0);
    }

    private static void rhymes() {
        says("promise 31: NONE: no such WORDS");
        WordMill mill = mill("stone z to none; word abcdefgh; word ibcdefgh; word h; word g; word zz; word abcdefgx; word fgh;");
        dueAll("no such", new int[] {mill.rhymes(7, 0), mill.rhymes(0, 7), mill.rhymes(-1, 0), mill.rhymes(0, -1), mill.rhymes(7, 7),
            mill.rhymes(LEAST, 0), mill.rhymes(0, MOST)}, NONE, NONE, NONE, NONE, NONE, NONE, NONE);
        says("terms: RHYME: how many letters at their ends are alike");
        dueAll("alike", new int[] {mill.rhymes(0, 0), mill.rhymes(0, 1), mill.rhymes(1, 0), mill.rhymes(0, 2), mill.rhymes(2, 0),
            mill.rhymes(0, 3), mill.rhymes(2, 3), mill.rhymes(0, 5), mill.rhymes(6, 1), mill.rhymes(2, 2)}, 8, 7, 7, 1, 1, 0, 0, 0, 3, 1);
        mill.centuries(1);
        dueAll("of nothing", new int[] {mill.word(4, 8), mill.rhymes(4, 0), mill.rhymes(0, 4), mill.rhymes(4, 4)}, 0, 0, 0, 0);
    }

    private static int[] bestTurnRow(WordMill mill) {
        return new int[] {mill.bestTurn(0), mill.bestTurn(1)};
    }

    private static void bestTurn() {
        says("promise 32: the STONE (-2: none), how many PAIRS come out then (or as it is); NONE for others");
        WordMill mill = mill("stone q to r; stone a to b; stone a to b; " + times(8, "pair a b; "));
        dueAll("none: all eight do", bestTurnRow(mill), -2, 8);
        dueAll("no such what", new int[] {mill.bestTurn(-1), mill.bestTurn(2), mill.bestTurn(LEAST), mill.bestTurn(MOST)}, NONE, NONE, NONE, NONE);
        mill.turn(1);
        dueAll("none: one is as good", bestTurnRow(mill), -2, 8);
        mill.turn(2);
        dueAll("of alike ones the first", bestTurnRow(mill), 1, 8);
        mill.swap(1, 2);
        dueAll("the first by number", bestTurnRow(mill), 1, 8);
        dueAll("OFF instead of ON", bestTurnRow(mill("stone a to b; pair a a;")), 0, 1);
        dueAll("the last of seven", bestTurnRow(mill(APART + "pair g g;")), 6, 1);
        dueAll("none: by none more than as it is", bestTurnRow(mill("stone a to b; pair a a; pair a b;")), -2, 1);
        dueAll("none at all comes out", bestTurnRow(mill("stone a to b; pair a c;")), -2, 0);
        dueAll("without stones", bestTurnRow(mill("pair a a; pair a b;")), -2, 1);
        dueAll("without PAIRS", bestTurnRow(mill(CHAIN)), -2, 0);
        dueAll("most of all", bestTurnRow(mill("stone a to b; stone c to d; pair a a; pair c c; pair cc cc;")), 1, 2);
    }

    // ---- promises 33 to 39

    private static void mostUsed() {
        says("promise 33: -2: there is no PIECE of that sort; NONE: no such ones");
        WordMill mill = mill("root z 1; root a 1; ending c 1; ending b 1; " + times(10, "word abb; "));
        dueAll("all full", new int[] {mill.mostUsed(0, 0), mill.mostUsed(0, 1), mill.mostUsed(1, 0), mill.mostUsed(1, 1)}, 1, 10, 1, 20);
        dueAll("no PIECE of that sort", new int[] {mill.mostUsed(2, 0), mill.mostUsed(2, 1)}, -2, -2);
        dueAll("no such sort", new int[] {mill.mostUsed(3, 0), mill.mostUsed(-1, 0), mill.mostUsed(LEAST, 1), mill.mostUsed(MOST, 1)},
            NONE, NONE, NONE, NONE);
        dueAll("no such what", new int[] {mill.mostUsed(0, 2), mill.mostUsed(0, -1), mill.mostUsed(1, LEAST), mill.mostUsed(1, MOST)},
            NONE, NONE, NONE, NONE);
        mill.centuries(1);
        dueAll("one of them whole", new int[] {mill.mostUsed(0, 1), mill.mostUsed(1, 0), mill.mostUsed(1, 1)}, 1, 1, 2);
        mill.grind(0);
        dueAll("none whole: the first, 0", new int[] {mill.mostUsed(0, 0), mill.mostUsed(0, 1), mill.mostUsed(1, 0), mill.mostUsed(1, 1)}, 0, 0, 0, 0);
        says("terms: MOST USED: of alike ones the first");
        WordMill alike = mill("root z 1; root a 1; root b 1; head b 1; head a 1; word ab; word ba;");
        dueAll("alike", new int[] {alike.mostUsed(0, 0), alike.mostUsed(0, 1), alike.mostUsed(2, 0), alike.mostUsed(2, 1)}, 1, 1, 0, 1);
        WordMill full = mill("root a 1; root b 1; root c 1; root d 1; root e 1; root f 1; root g 1; root h 1; ending a 1; ending b 1; ending c 1;"
            + "ending d 1; ending e 1; ending f 1; head a 1; head b 1; head c 1; head d 1; word dhf; word dhf; word ab;");
        dueAll("the last of each", new int[] {full.mostUsed(0, 0), full.mostUsed(0, 1), full.mostUsed(1, 0), full.mostUsed(1, 1),
            full.mostUsed(2, 0), full.mostUsed(2, 1)}, 7, 2, 5, 2, 3, 2);
        WordMill first = mill("root a 1; root b 1; root c 1; root d 1; root e 1; root f 1; root g 1; root h 1; ending a 1; head b 1; word haa; word haa;");
        dueAll("each sort for itself", new int[] {first.mostUsed(0, 0), first.mostUsed(0, 1), first.mostUsed(1, 1), first.mostUsed(2, 1)}, 7, 2, 4, 0);
    }

    private static void lacks() {
        says("promise 34: NONE: no such ones");
        WordMill mill = mill("root a 1; ending b 1; ending c 1; head d 1; word ab; word abb; word ab; " + "land 1 b 2; land 1 b 1 c 99; land 1; land 2 c 99;"
            + "land 3 c 99;");
        dueAll("no such", new int[] {mill.lacks(0, 1), mill.lacks(1, 2), mill.lacks(2, 1), mill.lacks(3, 0), mill.lacks(-1, 0), mill.lacks(0, -1),
            mill.lacks(LEAST, 0), mill.lacks(0, MOST)}, NONE, NONE, NONE, NONE, NONE, NONE, NONE, NONE);
        says("terms: LACKS: how many more of a PIECE must be in stock");
        dueAll("nothing in stock", new int[] {mill.lacks(0, 0), mill.lacks(1, 0), mill.lacks(1, 1), mill.lacks(2, 0)}, 0, 3, 297, 0);
        mill.grind(1);
        due("one less than enough", mill.lacks(1, 0), 1);
        mill.grind(0);
        due("just enough", mill.lacks(1, 0), 0);
        mill.grind(2);
        due("more than enough", mill.lacks(1, 0), 0);
        due("sell", mill.sell(0), true);
        dueAll("what is left and what is still wanted", new int[] {mill.stock(1, 0), mill.lacks(1, 0)}, 2, 0);
        WordMill five = mill("root a 1; " + times(5, "land 1 a 99; "));
        due("five lands", five.lacks(0, 0), 495);
        due("without lands", mill("root a 1;").lacks(0, 0), 0);
        says("terms: LACKS: all LANDS not sold to yet");
        WordMill sold = mill("root a 1; word a; land 1 a 1; land 1 a 1;");
        sold.grind(0);
        due("one of two", sold.lacks(0, 0), 1);
        sold.sell(0);
        due("the other one", sold.lacks(0, 0), 1);
    }

    private static void future() {
        says("promise 35: behind n CENTURIES (0 .. 300): what 0 .. 9 as word(); NONE: no such ones");
        WordMill mill = mill("stone a to none; word abcdefgh; word a; word bcdefgh;");
        dueAll("behind 0", new int[] {mill.future(0, 0, 0), mill.future(0, 0, 7), mill.future(0, 0, 8), mill.future(0, 0, 9), mill.future(1, 0, 9)},
            1, 8, 8, 0, 0);
        dueAll("behind 1", new int[] {mill.future(0, 1, 0), mill.future(0, 1, 7), mill.future(0, 1, 8), mill.future(0, 1, 9), mill.future(1, 1, 0),
            mill.future(1, 1, 8), mill.future(1, 1, 9), mill.future(2, 1, 9)}, 2, 0, 7, 0, 0, 0, 2, 2);
        dueAll("behind 300", new int[] {mill.future(0, 300, 0), mill.future(0, 300, 8), mill.future(1, 300, 9)}, 2, 7, 2);
        dueAll("no such n", new int[] {mill.future(0, 301, 0), mill.future(0, -1, 0), mill.future(0, LEAST, 8), mill.future(0, MOST, 9)},
            NONE, NONE, NONE, NONE);
        dueAll("no such what", new int[] {mill.future(0, 0, 10), mill.future(0, 0, -1), mill.future(0, 300, LEAST), mill.future(0, 300, MOST)},
            NONE, NONE, NONE, NONE);
        dueAll("no such WORD", new int[] {mill.future(3, 0, 0), mill.future(-1, 0, 0), mill.future(LEAST, 1, 8), mill.future(MOST, 1, 9)},
            NONE, NONE, NONE, NONE);
        dueAll("nothing happens", new int[] {mill.word(0, 8), mill.word(1, 9), mill.count(7), mill.count(13)}, 8, 0, 0, 0);
        mill.grind(1);
        dueAll("GROUND", new int[] {mill.future(1, 300, 9), mill.future(1, 300, 8)}, 1, 1);
    }

    private static int[] salesRow(WordMill mill) {
        return new int[] {mill.sales(0), mill.sales(1)};
    }

    private static void sales() {
        says("promise 36: NONE for others");
        WordMill mill = mill("root a 1; word a; word a; word a; land 999; land 999 a 1; land 999 a 1; land 999 a 1; land 999;");
        dueAll("no such what", new int[] {mill.sales(-1), mill.sales(2), mill.sales(LEAST), mill.sales(MOST)}, NONE, NONE, NONE, NONE);
        says("terms: BEST SALES: could all be sold to out of stock; of alike ones the least bits");
        dueAll("nothing in stock", salesRow(mill), 1998, 17);
        mill.grind(0);
        dueAll("one", salesRow(mill), 2997, 19);
        mill.grind(1);
        dueAll("two", salesRow(mill), 3996, 23);
        mill.grind(2);
        dueAll("all five", salesRow(mill), 4995, 31);
        mill.sell(0);
        dueAll("not sold to yet", salesRow(mill), 3996, 30);
        for (int land = 1; land < 5; land++) {
            mill.sell(land);
        }
        dueAll("all sold to", salesRow(mill), 0, 0);
        dueAll("without LANDS", salesRow(mill("word a;")), 0, 0);
        dueAll("they PAY nothing", salesRow(mill("land 0; land 0;")), 0, 0);
        dueAll("one PAYS nothing", salesRow(mill("land 0; land 1; land 0;")), 1, 2);
        dueAll("not enough", salesRow(mill("root a 1; land 9 a 1;")), 0, 0);
        WordMill either = mill("root a 1; word a; land 3 a 1; land 1; land 2; land 3 a 1; land 6 a 2;");
        either.grind(0);
        dueAll("either of two", salesRow(either), 6, 7);
    }

    private static void forged() {
        says("promise 37: ROOTS that are in no WAY of any WORD that is whole");
        String roots = "root a 1; root b 1; root c 1; root d 1; root e 1; root f 1; root g 1; root h 1; ";
        due("no WORD", mill(roots).forged(), 255);
        due("no ROOT", mill("word a; ending a 1; head a 1;").forged(), 0);
        WordMill mill = mill(roots + "ending z 1; word a; word hzz; word bzzz;");
        due("the first and the last are used", mill.forged(), 126);
        mill.grind(0);
        due("one is GROUND", mill.forged(), 127);
        mill.grind(1);
        due("none is used", mill.forged(), 255);
        due("all are used", mill(roots + "word a; word b; word c; word d; word e; word f; word g; word h;").forged(), 0);
        WordMill second = mill("root ab 1; root a 1; ending b 1; word ab;");
        due("in the second WAY", second.forged(), 0);
        second.centuries(1);
        due("whole still", second.forged(), 0);
    }

    private static final String LONG = "stone a to b; stone b to a; stone b to c; stone c to a; stone c to d; stone d to a; stone d to none; word a; seed 53;";

    /** Behind how many centuries nothing is left of the one word of the long text. */
    private static int dies() {
        String from = "abbccdd";
        String into = "bacada";
        String word = "a";
        for (int n = 1; n <= 2000; n++) {
            int stone = lot(7, 53, n - 1);
            if (word.charAt(0) == from.charAt(stone)) {
                if (stone == 6) {
                    return n;
                }
                word = into.substring(stone, stone + 1);
            }
        }
        return 0;
    }

    private static void lives() {
        says("promise 38: -2: it does not, it is not whole; NONE: no such WORD");
        int dies = dies();
        due("far enough", dies > 301, true);
        WordMill mill = mill(LONG);
        while (mill.count(7) < dies - 301) {
            mill.centuries(Math.min(100, dies - 301 - mill.count(7)));
        }
        dueAll("by 301", new int[] {mill.lives(0), mill.left(300), mill.future(0, 300, 9)}, -2, 1, 0);
        mill.centuries(1);
        dueAll("by 300", new int[] {mill.lives(0), mill.left(299), mill.left(300), mill.future(0, 299, 9), mill.future(0, 300, 9)}, 300, 1, 0, 0, 2);
        mill.centuries(1);
        dueAll("by 299", new int[] {mill.lives(0), mill.left(298), mill.left(299)}, 299, 1, 0);
        mill.centuries(99);
        mill.centuries(99);
        mill.centuries(99);
        dueAll("by 2", new int[] {mill.lives(0), mill.left(1), mill.left(2)}, 2, 1, 0);
        mill.centuries(1);
        dueAll("by 1", new int[] {mill.lives(0), mill.left(0), mill.left(1)}, 1, 1, 0);
        mill.centuries(1);
        dueAll("it DIED", new int[] {mill.lives(0), mill.word(0, 9), mill.left(0)}, -2, 2, 0);
        WordMill other = mill("stone a to none; word a; word b; word a; word b;");
        dueAll("lives", new int[] {other.lives(0), other.lives(1), other.lives(2), other.lives(3)}, 1, -2, 1, 1);
        dueAll("no such", new int[] {other.lives(4), other.lives(-1), other.lives(LEAST), other.lives(MOST)}, NONE, NONE, NONE, NONE);
        other.grind(0);
        other.grind(1);
        dueAll("not whole, and no more in the way", new int[] {other.lives(0), other.lives(1), other.lives(2), other.lives(3)}, -2, -2, 1, -2);
    }

    private static void left() {
        says("promise 39: behind n CENTURIES (0 .. 300); NONE: no such n");
        WordMill mill = mill("stone z to none; word a; word b; word c; word d; word e; word f; word g; word h; word i; word za;");
        dueAll("left", new int[] {mill.left(0), mill.left(1), mill.left(300)}, 1023, 511, 511);
        dueAll("no such n", new int[] {mill.left(301), mill.left(-1), mill.left(LEAST), mill.left(MOST)}, NONE, NONE, NONE, NONE);
        mill.grind(0);
        dueAll("a GROUND one is not left, nor in the way", new int[] {mill.left(0), mill.left(1)}, 1022, 1022);
        dueAll("nothing happens", new int[] {mill.count(7), mill.count(10), mill.count(13)}, 0, 9, 1);
        dueAll("without WORDS", new int[] {mill("stone a to b;").left(0), mill("stone a to b;").left(300)}, 0, 0);
    }

    // ---- promises 40 to 42

    private static final String SMALL = "stone b to a; stone c to none; root a 2; word a; word c; word bc; word bd; land 7 a 1; seed 1;";

    private static void held() {
        says("promise 40: a SLOT (0 .. 2); false: no such one");
        WordMill mill = mill(SMALL);
        for (int slot : new int[] {-1, 3, 4, 32, LEAST, MOST}) {
            due("hold(" + slot + ")", mill.hold(slot), false);
        }
        due("none holds", mill.count(14), 0);
        for (int slot = 0; slot < 3; slot++) {
            due("hold(" + slot + ")", mill.hold(slot), true);
            due("count(14)", mill.count(14), slot + 1);
            mill.centuries(1);
        }
        due("again", mill.hold(0), true);
        dueAll("counts", new int[] {mill.count(14), mill.count(13), mill.count(7)}, 3, 3, 3);
        for (int slot = 0; slot < 3; slot++) {
            due("restore(" + slot + ")", mill.restore(slot), true);
            due("century", mill.count(7), slot == 0 ? 3 : slot);
        }
        says("promise 40: to hold is no thing done, and what is held cannot be undone");
        mill.turn(0);
        mill.hold(1);
        dueAll("things done", new int[] {mill.count(13), mill.undo() ? 1 : 0, mill.undo() ? 1 : 0, mill.count(14)}, 1, 1, 0, 3);
        due("it stays held", mill.restore(1), true);
        due("as held", mill.isOn(0), 0);
    }

    private static void restored() {
        says("promise 41: false, and nothing happens: no such one, nothing is held");
        WordMill mill = mill(SMALL);
        mill.turn(1);
        mill.hold(1);
        String before = goingOn(mill);
        for (int slot : new int[] {-1, 0, 2, 3, 33, LEAST, MOST}) {
            due("restore(" + slot + ")", mill.restore(slot), false);
        }
        due("nothing happened", goingOn(mill), before);
        says("promise 41: it goes on from what a SLOT holds (that stays there; nothing can be undone then)");
        due("restore", mill.restore(1), true);
        due("nothing can be undone", mill.undo(), false);
        before = goingOn(mill);
        for (int n = 0; n < 3; n++) {
            mill.turn(0);
            mill.swap(0, 1);
            mill.grind(0);
            mill.sell(0);
            mill.grind(3);
            mill.centuries(n);
            feed(mill, "word");
            due("restore", mill.restore(1), true);
            due("as it was held", goingOn(mill), before);
            due("not the tape", mill.count(12), 4 * (n + 1));
        }
        due("nothing can be undone", mill.undo(), false);
    }

    private static void counts() {
        says("promise 42: NONE for others");
        WordMill mill = mill(SMALL);
        for (int what : new int[] {-1, 17, 18, 32, LEAST, MOST}) {
            due("count(" + what + ")", mill.count(what), NONE);
        }
        int[] all = new int[17];
        for (int what = 0; what <= 16; what++) {
            all[what] = mill.count(what);
        }
        dueAll("told", all, 4, 2, 1, 0, 0, 0, 1, 0, 0, 0, 4, 0, 0, 0, 0, 0, 0);
        WordMill five = mill(times(5, "land 999; "));
        for (int land = 0; land < 5; land++) {
            five.sell(land);
        }
        dueAll("LANDS sold to (bits), COINS", new int[] {five.count(11), five.count(8)}, 31, 4995);
        WordMill ten = mill("root a 9; ending b 9; head c 9; " + times(10, "word cabb; "));
        for (int w = 0; w < 10; w++) {
            ten.grind(w);
        }
        dueAll("TONS of all in stock, COINS, whole", new int[] {ten.count(15), ten.count(8), ten.count(10)}, 360, 360, 0);
        WordMill dust = mill(times(10, "word qqqqqqqq; "));
        for (int w = 0; w < 10; w++) {
            dust.grind(w);
        }
        due("DUST", dust.count(9), 80);
    }

    private static void theLastCallOfAll() {
        says("an object is used for at most 512 calls: the 512th too");
        WordMill mill = new WordMill();
        for (int n = 1; n <= 511; n++) {
            due("centuries", mill.centuries(100), 100 * n);
        }
        due("the 512th", mill.count(7), 51100);
        WordMill read = new WordMill();
        for (int n = 1; n <= 508; n++) {
            read.read();
        }
        feed(read, "word abc;");
        due("read", read.read(), 0);
        due("the 512th", read.word(0, 8), 3);
    }
}
