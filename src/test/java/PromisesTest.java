/** Each promise of the document by its number: ordinary inputs, the edges that are named, wrong inputs. */
public final class PromisesTest extends Checks {
    private static final String MILL = "class vowel aeiou; stone a to e before edge; stone t to d after vowel before vowel;"
        + "stone s to none after edge; root kat 3; root ke 2; root te 1; ending as 1; ending e 2; head s 4;"
        + "word skatas; word kata; word te; pair kata kade; pair skat kat;"
        + "land 50 kat 1 as 1; land 20 ke 2; brings = tons * 10 + ends - dust; seed 5;";

    public static void main(String[] args) {
        tape();
        syntax();
        room();
        meaning();
        textInPlace();
        stones();
        stages();
        jams();
        ways();
        orderAndOn();
        grind();
        laws();
        sell();
        centuries();
        undo();
        made();
        pairs();
        orders();
        sets();
        list();
        next();
        parted();
        derived();
        apart();
        bestTurn();
        mostUsed();
        lacks();
        future();
        sales();
        slots();
        counts();
        staleness();
        fullest();
        end();
    }

    private static void tape() {
        says("promise 1");
        WordMill mill = new WordMill();
        for (int what = 0; what <= 16; what++) {
            due("count(" + what + ")", mill.count(what), 0);
        }
        due("NONE", NONE, -1);
        due("place()", mill.place(), NONE);
        says("promise 2");
        for (int n = 1; n <= 100; n++) {
            due("feed", mill.feed(n, 0, 0, 0, -1), 20 * n);
        }
        due("feed beyond", mill.feed(0, 0, 0, 0, 0), NONE);
        due("count(12)", mill.count(12), 2000);
        due("back(19)", mill.back(19), 1981);
        due("feed beyond", mill.feed(0, 0, 0, 0, 0), NONE);
        due("back(1)", mill.back(1), 1980);
        due("feed up to", mill.feed(0, 0, 0, 0, 0), 2000);
        says("promise 3");
        due("back(-1)", mill.back(-1), NONE);
        due("back(2001)", mill.back(2001), NONE);
        due("back(least)", mill.back(Integer.MIN_VALUE), NONE);
        due("back(most)", mill.back(Integer.MAX_VALUE), NONE);
        due("back(0)", mill.back(0), 2000);
        due("back(2000)", mill.back(2000), 0);
        due("back(1)", mill.back(1), NONE);
        says("promise 2");
        due("feed word abc;", mill.feed(0x776f7264, 0x20616263, 0x3b202020, 0x20202020, 0x20202020), 20);
        due("read", mill.read(), 0);
        due("word(0)", wordOf(mill, 0), "abc");
        says("promise 4");
        due("the tape is empty", mill.count(12), 0);
        due("read of nothing", mill.read(), 0);
        due("place", mill.place(), NONE);
        due("nothing is told", mill.count(0), 0);
    }

    private static void syntax() {
        says("promises 4, 5: syntax");
        fine("");
        fine(" \t\r\n ");
        fine("seed 0;");
        fine(times(2000, " "));
        fine(times(1993, " ") + "word a;");
        fault(1, times(1994, "\n") + "word a|");
        fault(1, times(1994, " ") + "seed 1|");
        fault(1, times(1999, "\t") + "|w");
        fine("word\tabcdefgh\n;\r");
        fine("seed0012;root ab1;land7;");
        fault(1, "|;");
        fault(1, "|1");
        fault(1, "|abc");
        fault(1, "|none");
        fault(1, "|Word a;");
        fault(1, "word |A;");
        fault(1, "word a|\u00e9;");
        fault(1, "word a|\0;");
        fault(1, "word a|.");
        fault(1, "word a|,b;");
        fault(1, "word |abcdefghi;");
        fault(1, "|wordwords a;");
        fault(1, "|words a;");
        fault(1, "word |left;");
        fault(1, "word |1;");
        fault(1, "word |;");
        fault(1, "word |");
        fault(1, "word   |");
        fault(1, "word a|");
        fault(1, "word a  |");
        fault(1, "word a |b;");
        fault(1, "seed |12345;");
        fault(1, "seed |a;");
        fault(1, "seed 1 |2;");
        fault(1, "seed |-1;");
        fault(1, "class |;");
        fault(1, "class ab |;");
        fault(1, "class ab c |d;");
        fault(1, "stone |1 to b;");
        fault(1, "stone a |b;");
        fault(1, "stone a to |edge;");
        fault(1, "stone a to b |c;");
        fault(1, "stone a to b after |none;");
        fault(1, "stone a to b after |;");
        fault(1, "stone a to b before c |after d;");
        fault(1, "stone a to b after c |after d;");
        fault(1, "stone a to b after edge before edge |before edge;");
        fine("stone a to none after edge before edge;");
        fine("stone a to a before edge;");
        fault(1, "root a |;");
        fault(1, "root |1;");
        fault(1, "ending a 1 |1;");
        fault(1, "head |head 1;");
        fault(1, "pair a |;");
        fault(1, "pair a b c |d;");
        fault(1, "pair a b |1;");
        fault(1, "land |a 1;");
        fault(1, "land 1 a |;");
        fault(1, "land 1 a 1 |2;");
        fault(1, "land 1 |= 2;");
        fault(1, "brings |1;");
        fault(1, "brings = |;");
        fault(1, "brings = 1 |2;");
        fault(1, "brings = |-1;");
        fault(1, "brings = 1 + |+ 1;");
        fault(1, "brings = 1 + |");
        fault(1, "brings = (1 + 2|;");
        fault(1, "brings = 1|);");
        fault(1, "brings = (|);");
        fault(1, "brings = (1 |< 2);");
        fault(1, "brings = 1 |< 2;");
        fault(1, "brings = |abc;");
        fault(1, "brings = if 1 |then 2 else 3;");
        fault(1, "brings = if 1 < 2 |else 3;");
        fault(1, "brings = if 1 < 2 then 3|;");
        fault(1, "brings = if 1 < 2 then |if 1 < 2 then 3 else 4 else 5;");
        fault(1, "brings = 1 + |if 1 < 2 then 3 else 4;");
        fault(1, "brings = if 1 < 2 |< 3 then 4 else 5;");
        fine("brings = if 1 < 2 then 3 else if ends < heads then tons else dust + turn * left / (0);");
    }

    private static void room() {
        says("promises 4, 5: room");
        fine(times(6, "class aX bc;").replace("X", "") .replaceFirst("class a", "class ab").replaceFirst("class a ", "class ac ")
            .replaceFirst("class a ", "class ad ").replaceFirst("class a ", "class ae ").replaceFirst("class a ", "class af ")
            .replaceFirst("class a ", "class ag "));
        fault(2, times(6, "class ab c;") + "|class ab c;");
        fine(times(7, "stone a to b;"));
        fault(2, times(7, "stone a to b;") + "|stone a to b;");
        fault(2, times(8, "root a 0;") + "|root b 1;");
        fault(2, times(6, "ending a 1;") + "|ending b 1;");
        fault(2, times(4, "head a 1;") + "|head b 1;");
        fine(times(10, "word a;"));
        fault(2, times(10, "word a;") + "|word a;");
        fault(2, times(10, "word a;") + "|word ;");
        fine(times(8, "pair a b;"));
        fault(2, times(8, "pair a b;") + "|pair a b;");
        fine(times(5, "land 1;"));
        fault(2, times(5, "land 1;") + "|land 1;");
        fine(times(20, "seed 1;") + times(20, "brings = 1;"));
        fine("root a 1;root b 1;root c 1;root d 1;land 1 a 1 b 1 c 1 d 1;");
        fault(2, "root a 1;land 1 a 1 a 1 a 1 a 1 |e 1;");
        fault(2, "land 1 a 1 a 1 a 1 a 1 |e;");
        String branch = "if 1 < 2 then 3 else ";
        fine("brings = " + times(4, branch) + "5;");
        fault(2, "brings = " + times(4, branch) + "|" + branch + "5;");
        fine("brings = ((((((1))))));");
        fine("brings = ((((((1)))))) + ((((((1))))));");
        fault(2, "brings = ((((((|(1)))))));");
        fault(2, "brings = 1 + (2 * (3 + (4 + (5 + (6 + (7 + |(8)))))));");
        String many = "brings=1" + times(198, "+1") + ";";
        fine(many);
        fault(2, many + "|seed 1;");
        fault(1, many + "|;");
        fault(1, many + "|abcdefghi");
        String more = "brings=1" + times(198, "+1");
        fault(1, more + "+|");
        fault(2, more + "+|1");
        fault(2, more + "+|(");
        fault(1, more + "+|+");
        fault(1, more + "+|12345");
        String most = "brings=1" + times(193, "+1") + ";";
        fault(2, most + "seed 1;land 1 a 1 b 1 c |1;");
        fault(1, most + "seed 1;land 1 a 1 b 1 c |d;");
        fault(2, "brings=1" + times(195, "+1") + ";land 1 a 1 b 1 |c 1;");
        fault(2, "brings=1" + times(195, "+1") + ";brings=if 1<2 |then 3 else 4;");
        fault(2, "brings=1" + times(196, "+1") + ";brings=if 1|<2 then 3 else 4;");
        fault(2, "brings=1" + times(196, "+1") + ";seed 1;brings|=1;");
        fault(2, "brings=1" + times(197, "+1") + ";brings=|1;");
        fault(1, "brings=1" + times(197, "+1") + ";brings=|<;");
        fault(2, times(10, "word a;") + "|word a; ;");
        fault(1, "word a; |; " + times(11, "word a;"));
    }

    private static void meaning() {
        says("promises 4, 5: twice, name, wrong");
        fault(3, "class ab c; class |ab d;");
        fault(3, "root ab 1; root |ab 1;");
        fault(3, "root ab 1; root |ab 0;");
        fault(3, "ending a 1; ending |a 2;");
        fault(3, "head a 1; head b 1; head |a 2;");
        fine("class ab a; root ab 1; ending ab 1; head ab 1; word ab; word ab; pair ab ab; pair ab ab;");
        fault(3, "root a 1; land 1 a 1 |a 1;");
        fault(3, "root a 1; ending a 1; land 1 a 1 |a 1;");
        fine("root a 1; land 1 a 1; land 1 a 1;");
        fault(4, "stone a to b after |ab;");
        fault(4, "stone a to b before |ab; class ab c;");
        fault(4, "class ab c; stone a to b after ab before |ac;");
        fine("class ab c; stone a to b after ab before ab;");
        fine("stone a to b after q before z;");
        fault(4, "land 1 |a 1;");
        fault(4, "land 1 |a 1; root a 1;");
        fault(4, "root a 1; land 1 a 1 |b 0;");
        fault(5, "class |a bc;");
        fault(5, "class |a bc; class a de;");
        fault(5, "stone |ab to c;");
        fault(5, "stone a to |bc;");
        fault(5, "stone |ab to cd after ef;");
        fault(5, "root a |0;");
        fault(5, "root a |10;");
        fault(5, "ending a |0;");
        fault(5, "head a |99;");
        fine("root a 1; ending b 9; head c 0009;");
        fault(5, "land |1000;");
        fault(5, "root a 1; land 999 a |0;");
        fault(5, "root a 1; land 0 a |100;");
        fine("root a 1; land 999 a 99; land 0 a 1; seed 9999; seed 0;");
        fault(5, "root a 1; root b |0; root a 1; word a; land 1 q 1;");
        fault(1, "root a 0; class a b; word a |word;");
    }

    private static void textInPlace() {
        says("terms: a text in place of the one ahead");
        WordMill mill = mill(MILL);
        mill.turn(0);
        mill.swap(0, 2);
        mill.grind(2);
        mill.centuries(7);
        mill.hold(1);
        feed(mill, "word a; | ");
        due("read", mill.read(), 1);
        due("place", mill.place(), 8);
        due("things done stay", mill.count(13), 4);
        due("slots stay", mill.count(14), 1);
        due("century stays", mill.count(7), 7);
        due("order stays", mill.order(0), 2);
        feed(mill, MILL);
        due("read", mill.read(), 0);
        due("place", mill.place(), NONE);
        dueAll("counts", new int[] {mill.count(7), mill.count(8), mill.count(9), mill.count(10), mill.count(11), mill.count(13),
            mill.count(14), mill.count(15)}, 0, 0, 0, 3, 0, 0, 0, 0);
        due("order", mill.order(0), 0);
        due("isOn", mill.isOn(0), 1);
        due("fate", mill.word(2, 9), 0);
        due("restore", mill.restore(1), false);
        due("undo", mill.undo(), false);
    }

    private static void stones() {
        says("promises 6, 7");
        stone("stone a to b;", "aacaa", "bbcbb");
        stone("stone a to none;", "aacaa", "c");
        stone("stone a to none;", "aaaaaaaa", "");
        stone("stone a to b after a;", "aaaa", "abbb");
        stone("stone a to b before a;", "aaaa", "bbba");
        stone("stone a to b after edge;", "aaaa", "baaa");
        stone("stone a to b before edge;", "aaaa", "aaab");
        stone("stone a to b after edge before edge;", "aa", "aa");
        stone("stone a to b after edge before edge;", "a", "b");
        stone("stone a to none after x;", "xaaxa", "xax");
        stone("stone a to none before x;", "aaxax", "axx");
        stone("stone t to d after vow before vow;", "atattat", "adattat");
        stone("stone t to d after vow before edge;", "tatat", "tatad");
        stone("stone t to d after dup;", "txtatx", "txdatx");
        stone("stone a to a;", "banana", "banana");
        stone("stone z to y;", "zebrazzz", "yebrayyy");
        stone("stone a to b; stone b to c;", "abc", "ccc");
        stone("stone b to c; stone a to b;", "abc", "bcc");
        stone("stone a to none; stone b to c after edge;", "ab", "c");
        stone("stone a to none; stone a to b;", "a", "");
        WordMill mill = mill(MILL);
        dueAll("word", new int[] {mill.word(0, 0), mill.word(0, 5), mill.word(0, 6), mill.word(0, 7), mill.word(0, 8),
            mill.word(0, 9), mill.word(0, 10), mill.word(0, -1), mill.word(3, 0), mill.word(-1, 0)},
            19, 19, 0, 0, 6, 0, NONE, NONE, NONE, NONE);
        dueAll("run", new int[] {mill.run(0, 0), mill.run(0, 4), mill.run(0, 5), mill.run(0, 7), mill.run(0, 8), mill.run(0, 9),
            mill.run(0, -1), mill.run(3, 8), mill.run(-1, 8)}, 11, 19, 0, 0, 5, NONE, NONE, NONE, NONE);
        due("run", runOf(mill, 0), "kadas");
        due("run", runOf(mill, 1), "kade");
        due("turn", mill.turn(1), true);
        due("run", runOf(mill, 1), "kate");
        due("word", wordOf(mill, 1), "kata");
        due("word of eight", mill("word abcdefgh;").word(0, 7), 8);
    }

    private static void stages() {
        says("promise 8");
        WordMill mill = mill("stone a to b; stone b to c; stone c to d; word a;");
        dueAll("stage", new int[] {mill.stage(0, 0, 0), mill.stage(0, 1, 0), mill.stage(0, 2, 0), mill.stage(0, 3, 0),
            mill.stage(0, 4, 0), mill.stage(0, -1, 0), mill.stage(1, 0, 0), mill.stage(-1, 0, 0), mill.stage(0, 0, 8),
            mill.stage(0, 0, 9), mill.stage(0, 0, -1)}, 1, 2, 3, 4, NONE, NONE, NONE, NONE, 1, NONE, NONE);
        mill.turn(1);
        dueAll("stage", new int[] {mill.stage(0, 1, 0), mill.stage(0, 2, 0), mill.stage(0, 3, 0)}, 2, 2, NONE);
        mill.turn(1);
        mill.swap(0, 1);
        dueAll("stage", new int[] {mill.stage(0, 1, 0), mill.stage(0, 2, 0), mill.stage(0, 3, 0)}, 1, 2, 2);
    }

    private static void jams() {
        says("promise 9");
        WordMill mill = mill("stone a to b; stone b to none; stone c to none; word aba; word c; word d; word a;");
        dueAll("jams", new int[] {mill.jams(0), mill.jams(1), mill.jams(2), mill.jams(3), mill.jams(4), mill.jams(-1)},
            1, 2, -2, 1, NONE, NONE);
        mill.turn(0);
        dueAll("jams", new int[] {mill.jams(0), mill.jams(1), mill.jams(3)}, -2, 2, -2);
        mill.turn(0);
        mill.swap(0, 1);
        due("jams", mill.jams(3), -2);
        due("no stones", mill("word a;").jams(0), -2);
        jamsOfNothing();
    }

    /** A word that a century left nothing of is jammed by none, whether stones are on or not. */
    private static void jamsOfNothing() {
        WordMill mill = mill("stone a to none; stone b to none; word aa; word ab; word b; seed 3;");
        due("before", mill.jams(0), 0);
        int first = 0;
        while (mill.word(0, 8) != 0 && first < 20) {
            mill.centuries(1);
            first++;
        }
        dueAll("died so", new int[] {mill.word(0, 8), mill.word(0, 9), mill.jams(0), mill.run(0, 8), mill.stage(0, 2, 8)}, 0, 2, -2, 0, 0);
        mill.swap(0, 1);
        due("swapped", mill.jams(0), -2);
        mill.turn(0);
        mill.turn(1);
        due("none on", mill.jams(0), -2);
        for (int i = 0; i < 3; i++) {
            mill.undo();
        }
        due("the century is undone", mill.undo(), true);
        due("whole again", mill.jams(0), 0);
    }

    private static void ways() {
        says("promise 10");
        WordMill mill = mill("head a 1; head ab 2; root b 1; root ab 2; root a 3; root bb 4; ending b 1; ending bb 2; ending a 3;"
            + "word ab; word abb; word abbb; word b; word c; word baaa; word baa; word abab;");
        dueAll("ways of ab", waysOf(mill, 0), 200, 310, 1100);
        dueAll("ways of abb", waysOf(mill, 1), 210, 311, 320, 1110, 1400, 2100);
        dueAll("ways of abbb", waysOf(mill, 2), 211, 220, 312, 321, 1111, 1120, 1410, 2110, 2400);
        dueAll("ways of b", waysOf(mill, 3), 100);
        dueAll("ways of c", waysOf(mill, 4));
        dueAll("ways of baaa", waysOf(mill, 5));
        dueAll("ways of baa", waysOf(mill, 6), 133);
        dueAll("ways of abab", waysOf(mill, 7), 231, 1131, 2200, 2310);
        dueAll("no such", new int[] {mill.way(8, NONE), mill.way(-1, 0), mill.way(0, -2), mill.way(0, 3)}, NONE, NONE, NONE, NONE);
        WordMill ground = mill("stone x to none; root a 1; word ax; word x;");
        dueAll("ways behind a run", waysOf(ground, 0), 100);
        dueAll("ways of nothing", waysOf(ground, 1));
        ground.turn(0);
        dueAll("ways behind no stone", waysOf(ground, 0));
        WordMill most = mill("head a 1; head b 1; head c 1; head d 1;" + "root a 1; root b 1; root c 1; root d 1; root e 1; root f 1;"
            + "root g 1; root h 1; ending a 1; ending b 1; ending c 1; ending d 1; ending e 1; ending f 1; word dhff;");
        dueAll("the last way of all", waysOf(most, 0), 4866);
    }

    private static void orderAndOn() {
        says("promises 11 to 14");
        WordMill mill = mill("stone a to b; stone b to c; stone c to d; word abc;");
        dueAll("order", new int[] {mill.order(0), mill.order(1), mill.order(2), mill.order(3), mill.order(-1)}, 0, 1, 2, NONE, NONE);
        due("swap", mill.swap(0, 2), true);
        dueAll("order", new int[] {mill.order(0), mill.order(1), mill.order(2)}, 2, 1, 0);
        due("swap", mill.swap(1, 0), true);
        dueAll("order", new int[] {mill.order(0), mill.order(1), mill.order(2)}, 1, 2, 0);
        dueAll("no swap", new int[] {mill.swap(1, 1) ? 1 : 0, mill.swap(0, 3) ? 1 : 0, mill.swap(3, 0) ? 1 : 0, mill.swap(-1, 0) ? 1 : 0,
            mill.swap(0, -1) ? 1 : 0, mill.swap(5, 5) ? 1 : 0}, 0, 0, 0, 0, 0, 0);
        due("things done", mill.count(13), 2);
        dueAll("isOn", new int[] {mill.isOn(0), mill.isOn(2), mill.isOn(3), mill.isOn(-1)}, 1, 1, NONE, NONE);
        due("turn", mill.turn(2), true);
        dueAll("isOn", new int[] {mill.isOn(0), mill.isOn(1), mill.isOn(2)}, 1, 1, 0);
        due("order of all", mill.order(1), 2);
        due("turn", mill.turn(2), true);
        due("isOn", mill.isOn(2), 1);
        dueAll("no turn", new int[] {mill.turn(3) ? 1 : 0, mill.turn(-1) ? 1 : 0, mill.turn(Integer.MAX_VALUE) ? 1 : 0}, 0, 0, 0);
        due("things done", mill.count(13), 4);
    }

    private static void grind() {
        says("promise 15");
        WordMill mill = mill("stone x to none; head h 5; root a 1; root ab 2; ending b 3; ending c 4; word habbx; word abc; word xqrs;"
            + "word abb; word x; word a;");
        due("grind", mill.grind(0), 12);
        due("its first way", mill.stock(0, 0), 1);
        dueAll("stock", new int[] {mill.stock(0, 1), mill.stock(1, 0), mill.stock(1, 1), mill.stock(2, 0)}, 0, 2, 0, 1);
        dueAll("state", new int[] {mill.word(0, 9), mill.word(0, 8), mill.count(8), mill.count(9), mill.count(10), mill.count(15)},
            1, 5, 12, 0, 5, 12);
        due("grind again", mill.grind(0), -2);
        due("grind", mill.grind(1), 8);
        due("dust", mill.grind(2), 0);
        dueAll("state", new int[] {mill.count(8), mill.count(9), mill.count(10), mill.count(13)}, 20, 3, 3, 3);
        due("grind to nothing", mill.grind(4), 0);
        dueAll("state", new int[] {mill.count(9), mill.word(4, 9)}, 3, 1);
        dueAll("no such", new int[] {mill.grind(6), mill.grind(-1)}, NONE, NONE);
        due("things done", mill.count(13), 4);
        says("promise 19");
        dueAll("stock", new int[] {mill.stock(0, 0), mill.stock(1, 0), mill.stock(1, 1), mill.stock(2, 0)}, 2, 3, 1, 1);
        dueAll("no such", new int[] {mill.stock(0, 2), mill.stock(1, 2), mill.stock(2, 1), mill.stock(3, 0), mill.stock(-1, 0),
            mill.stock(0, -1)}, NONE, NONE, NONE, NONE, NONE, NONE);
    }

    /** What the first word to be ground brings: "hrbb" by a head, a root and two endings, of 4 + 3 + 2 + 2 tons. */
    private static void law(String law, int coins) {
        WordMill mill = mill("head h 4; root r 3; ending b 2; word hrbb; word qqq; word r; brings = " + law + ";");
        due("brings = " + law, mill.grind(0), coins);
        due("coins of " + law, mill.count(8), coins);
    }

    private static void laws() {
        says("promise 15: laws");
        law("tons", 11);
        law("ends * 100 + heads * 10 + dust", 210);
        law("turn * 100 + left", 3);
        law("2 + 3 * 4", 14);
        law("(2 + 3) * 4", 20);
        law("20 - 3 - 2", 15);
        law("100 / 7 / 2", 7);
        law("100 / 7 * 2", 28);
        law("2 * 7 / 3", 4);
        law("10 - 7 / 2", 7);
        law("10 + (0 - 7) / 2", 7);
        law("0 - 7", 0);
        law("999", 999);
        law("1000", 999);
        law("9999 * 9999 * 22", 0);
        law("9999 * 9999 * 42 / 1000 / 1000", 0);
        law("9999 * 9999 * 43 / 1000 / 1000", 4);
        law("(0 - 2048 * 1024 * 1024) / (0 - 1) / 1024 / 1024 + 2050", 2);
        law("5 / 0", 0);
        law("7 + 5 / dust", 0);
        law("7 + 0 * (5 / (tons - 11))", 0);
        law("if 1 < 2 then 7 else 5 / 0", 7);
        law("if 1 < 0 then 5 / 0 else 8", 8);
        law("if 5 / 0 < 1 then 7 else 8", 0);
        law("if 1 < 5 / 0 then 7 else 8", 0);
        law("if 2 < 2 then 1 else 2", 2);
        law("if tons < 11 then 1 else if tons < 12 then 2 else if tons < 13 then 3 else 4", 2);
        law("if 3 < 2 then 1 else if 3 < 2 then 2 else if 3 < 2 then 3 else if 2 < 3 then 4 else 5", 4);
        law("if 3 < 2 then 1 else if 1 < 2 then 2 + 3 * (4 - 1) else 9 / 0", 11);
        law("((((((7))))))", 7);
        law("1; brings = 2", 2);
        law("if 1 < 2 then 3 else 4; brings = tons", 11);
        WordMill mill = mill("head h 4; root r 3; word q; word qq; word r; word hr; brings = turn * 100 + left * 10 + dust;");
        dueAll("turn, left, dust", new int[] {mill.grind(1), mill.grind(0), mill.grind(3), mill.grind(2)}, 42, 131, 220, 310);
        due("coins", mill.count(8), 703);
        due("dust", mill.count(9), 3);
        WordMill dying = mill("word a; word a; word b; brings = turn * 100 + left;");
        dying.centuries(1);
        dueAll("died ones do not count", new int[] {dying.grind(0), dying.grind(1), dying.grind(2)}, 2, -2, 101);
    }

    private static void sell() {
        says("promise 16");
        WordMill mill = mill("root a 1; ending a 2; ending b 3; head b 4; head c 5; word ab; word cabb; word aab;"
            + "land 10 a 1 b 2; land 20 a 2 c 1; land 30; land 999 c 1; land 5 a 9;");
        due("not enough", mill.sell(0), false);
        mill.grind(0);
        due("not enough yet", mill.sell(0), false);
        mill.grind(1);
        due("things done", mill.count(13), 2);
        due("sell", mill.sell(0), true);
        dueAll("stock", new int[] {mill.stock(0, 0), mill.stock(1, 0), mill.stock(1, 1), mill.stock(2, 0), mill.stock(2, 1)},
            1, 0, 1, 0, 1);
        dueAll("state", new int[] {mill.count(8), mill.count(11), mill.count(13), mill.count(15)}, 26, 1, 3, 9);
        due("sold already", mill.sell(0), false);
        due("not enough", mill.sell(1), false);
        mill.grind(2);
        due("enough", mill.sell(1), true);
        due("no more", mill.sell(3), false);
        due("wants nothing", mill.sell(2), true);
        due("once", mill.sell(2), false);
        dueAll("state", new int[] {mill.count(8), mill.count(11), mill.stock(0, 0), mill.stock(1, 0), mill.stock(2, 1)}, 82, 7, 0, 1, 0);
        dueAll("no such", new int[] {mill.sell(5) ? 1 : 0, mill.sell(-1) ? 1 : 0, mill.sell(32) ? 1 : 0}, 0, 0, 0);
    }

    private static void centuries() {
        says("promise 17");
        WordMill mill = mill("stone a to b; stone c to d; stone e to f; word ace; seed 5;");
        mill.turn(1);
        dueAll("none, wrong", new int[] {mill.centuries(0), mill.centuries(-1), mill.centuries(101)}, 0, NONE, NONE);
        due("things done", mill.count(13), 1);
        due("century", mill.centuries(1), 1);
        due("word", wordOf(mill, 0), "acf");
        due("century", mill.centuries(1), 2);
        due("word", wordOf(mill, 0), "adf");
        due("century", mill.centuries(4), 6);
        due("word", wordOf(mill, 0), "adf");
        due("century", mill.centuries(1), 7);
        due("word", wordOf(mill, 0), "bdf");
        due("century", mill.centuries(100), 107);
        due("count(7)", mill.count(7), 107);
        due("things done", mill.count(13), 6);
        WordMill seven = mill("stone a to h; stone b to i; stone c to j; stone d to k; stone e to l; stone f to m; stone g to n;"
            + "word abcdefg; seed 77;");
        seven.swap(0, 6);
        String[] left = {"abcdefn", "abcdlfn", "aicdlfn", "aicdlfn", "aicdlfn", "aicklfn", "aicklfn", "hicklfn"};
        for (int n = 0; n < left.length; n++) {
            seven.centuries(1);
            due("word behind century " + n, wordOf(seven, 0), left[n]);
        }
        WordMill dying = mill("stone a to none; stone a to b after b; word aa; word ba; word b; word aab; word c; word ba; seed 9999;");
        due("alike ones", dying.word(5, 9), 0);
        dying.grind(4);
        dying.centuries(1);
        int stone = dying.word(0, 8) == 0 ? 0 : 1;
        due("which stone", stone, 0);
        dueAll("fates", fates(dying), 2, 0, 2, 2, 1, 2);
        dueAll("letters", new int[] {dying.word(0, 8), dying.word(1, 8), dying.word(2, 8), dying.word(3, 8), dying.word(5, 0)}, 0, 1, 1, 1, 2);
        due("whole", dying.count(10), 1);
        WordMill bare = mill("word a; word b; word a; word a;");
        bare.grind(0);
        bare.centuries(2);
        dueAll("without stones, a ground one does not count", fates(bare), 1, 0, 0, 2);
        due("new object", new WordMill().centuries(100), 100);
    }

    private static void undo() {
        says("promise 18");
        WordMill mill = mill("stone a to none; stone b to c; root a 2; word a; word b; word a; land 7 a 1; brings = tons * 10; seed 3;");
        due("nothing", mill.undo(), false);
        mill.turn(0);
        mill.swap(0, 1);
        mill.grind(0);
        mill.sell(0);
        mill.centuries(5);
        dueAll("not done", new int[] {mill.turn(9) ? 1 : 0, mill.swap(0, 0) ? 1 : 0, mill.grind(0), mill.sell(0) ? 1 : 0, mill.centuries(0)},
            0, 0, -2, 0, 5);
        due("things done", mill.count(13), 5);
        due("undo", mill.undo(), true);
        dueAll("centuries undone", new int[] {mill.count(7), mill.word(2, 9), mill.word(1, 0), mill.count(11), mill.count(13)}, 0, 0, 2, 1, 4);
        due("undo", mill.undo(), true);
        dueAll("sell undone", new int[] {mill.count(8), mill.count(11), mill.stock(0, 0)}, 20, 0, 1);
        due("undo", mill.undo(), true);
        dueAll("grind undone", new int[] {mill.count(8), mill.word(0, 9), mill.stock(0, 0), mill.order(0)}, 0, 0, 0, 1);
        due("undo", mill.undo(), true);
        dueAll("swap undone", new int[] {mill.order(0), mill.isOn(0), mill.count(13)}, 0, 0, 1);
        due("undo", mill.undo(), true);
        due("turn undone", mill.isOn(0), 1);
        due("no more", mill.undo(), false);
        for (int i = 0; i < 33; i++) {
            mill.turn(i % 2);
        }
        due("things done", mill.count(13), 30);
        for (int i = 0; i < 30; i++) {
            due("undo", mill.undo(), true);
        }
        due("the 31st", mill.undo(), false);
        dueAll("the first three stay", new int[] {mill.isOn(0), mill.isOn(1)}, 1, 0);
        WordMill dust = mill("word abc;");
        dust.grind(0);
        dust.undo();
        dueAll("dust undone", new int[] {dust.count(9), dust.count(10)}, 0, 1);
    }

    private static void made() {
        says("promise 20");
        WordMill mill = mill("root a 1; root ab 1; ending b 1; ending bc 1; ending c 1;");
        int[][] table = {{1, 1, 0, -2}, {2, 2, 1, 110}, {3, 4, 2, 111}, {4, 6, 2, 121}, {5, 2, 0, -2}, {6, 1, 0, -2}, {7, 0, 0, -2}};
        mill.turn(0);
        for (int[] row : table) {
            due("made(" + row[0] + ", 0)", mill.made(row[0], 0), brute(row[0], 0));
            due("made(" + row[0] + ", 1)", mill.made(row[0], 1), brute(row[0], 1));
            due("made(" + row[0] + ", 2)", mill.made(row[0], 2), brute(row[0], 2));
        }
        dueAll("made of 2", new int[] {mill.made(2, 0), mill.made(2, 1), mill.made(2, 2)}, 2, 1, 110);
        dueAll("made of 3", new int[] {mill.made(3, 0), mill.made(3, 1), mill.made(3, 2)}, 4, 2, 111);
        dueAll("no such", new int[] {mill.made(0, 0), mill.made(13, 0), mill.made(-1, 1), mill.made(2, 3), mill.made(2, -1)},
            NONE, NONE, NONE, NONE, NONE);
        WordMill far = mill("head abcd 1; root abcd 1; root abcdabcd 1; ending abcd 1; ending abcdabcd 1;");
        dueAll("made of 12", new int[] {far.made(12, 0), far.made(12, 1), far.made(12, 2)}, 1, 1, 111);
        dueAll("made of 4", new int[] {far.made(4, 0), far.made(4, 1), far.made(4, 2)}, 1, 0, -2);
        WordMill none = mill("head a 1; ending b 1;");
        dueAll("no root, no word", new int[] {none.made(1, 0), none.made(2, 0), none.made(2, 1), none.made(2, 2)}, 0, 0, 0, -2);
        feed(none, "root a 1;");
        none.read();
        due("another text", none.made(1, 0), 1);
        WordMill heads = mill("head a 1; head b 1; root b 1; root bb 1; root ab 1; root z 1; stone z to none;");
        dueAll("heads last", new int[] {heads.made(2, 0), heads.made(2, 1), heads.made(2, 2)}, 4, 2, 200);
    }

    /** The words of roots a, ab and endings b, bc, c, tried one by one. */
    private static int brute(int n, int what) {
        String[] roots = {"a", "ab"};
        String[] endings = {"", "b", "bc", "c"};
        java.util.Map<String, java.util.List<Integer>> by = new java.util.TreeMap<>();
        for (int r = 0; r < 2; r++) {
            for (int e = 0; e < 4; e++) {
                for (int f = 0; f < (e == 0 ? 1 : 4); f++) {
                    String word = roots[r] + endings[e] + endings[f];
                    if (word.length() == n) {
                        by.computeIfAbsent(word, w -> new java.util.ArrayList<>()).add(100 * (r + 1) + 10 * e + f);
                    }
                }
            }
        }
        int twice = (int) by.values().stream().filter(c -> c.size() > 1).count();
        int first = by.values().stream().filter(c -> c.size() > 1).mapToInt(c -> c.get(0)).min().orElse(-2);
        return what == 0 ? by.size() : what == 1 ? twice : first;
    }

    private static void pairs() {
        says("promise 21");
        WordMill mill = mill("stone a to b; stone b to none; stone c to d; pair ac d ad; pair c d; pair a b a; pair ca d da;");
        dueAll("pair", new int[] {mill.pair(0, false), mill.pair(0, true), mill.pair(1, false), mill.pair(1, true), mill.pair(2, false),
            mill.pair(2, true), mill.pair(3, false)}, 1, 0, 1, -2, 0, 0, 1);
        mill.turn(0);
        dueAll("pair", new int[] {mill.pair(0, false), mill.pair(0, true), mill.pair(2, true), mill.pair(3, true)}, 0, 1, 1, 1);
        mill.turn(0);
        mill.swap(0, 1);
        dueAll("pair", new int[] {mill.pair(0, false), mill.pair(2, false)}, 0, 1);
        dueAll("no such", new int[] {mill.pair(4, false), mill.pair(-1, false), mill.pair(4, true), mill.pair(-1, true)},
            NONE, NONE, NONE, NONE);
    }

    private static void orders() {
        says("promises 22 to 24");
        WordMill mill = mill("stone a to b; stone b to c; stone c to d; stone q to r; pair a d; pair ab cd; pair ab dd; pair x y;");
        dueAll("orders", new int[] {mill.orders(0), mill.orders(1), mill.orders(2), mill.orders(-1), mill.orders(5)}, 24, 4, 0, NONE, NONE);
        dueAll("orderAt", new int[] {mill.orderAt(1, 0), mill.orderAt(1, 1), mill.orderAt(1, 2), mill.orderAt(1, 3), mill.orderAt(1, 4)},
            0, 1, 2, 3, NONE);
        dueAll("orderAt", new int[] {mill.orderAt(2, 0), mill.orderAt(2, 9), mill.orderAt(2, -1), mill.orderAt(5, 0), mill.orderAt(-1, 0)},
            -2, -2, NONE, NONE, NONE);
        dueAll("swaps", new int[] {mill.swaps(0), mill.swaps(1), mill.swaps(2), mill.swaps(5), mill.swaps(-1)}, 0, 0, -2, NONE, NONE);
        mill.swap(0, 3);
        dueAll("order q, b, c, a", new int[] {mill.orders(1), mill.orderAt(1, 0), mill.swaps(1)}, 4, 0, 2);
        mill.swap(1, 2);
        due("order q, c, b, a", mill.swaps(1), 3);
        mill.turn(3);
        dueAll("those that are on", new int[] {mill.orders(0), mill.orders(1), mill.orderAt(1, 2), mill.orderAt(1, 3), mill.swaps(1)},
            6, 1, 2, NONE, 3);
        mill.turn(2);
        dueAll("no order", new int[] {mill.orders(0), mill.orders(1), mill.orderAt(1, 0), mill.swaps(1), mill.swaps(0)}, 2, 0, -2, -2, 0);
        dueAll("order b, a", new int[] {mill.orderAt(0, 0), mill.orderAt(0, 1), mill.orderAt(0, 2)}, 0, 1, NONE);
        mill.turn(0);
        mill.turn(1);
        dueAll("none on", new int[] {mill.orders(0), mill.orders(1), mill.orderAt(0, 0), mill.swaps(0)}, 1, 0, NONE, 0);
        WordMill seven = mill("stone a to b; stone b to c; stone c to d; stone d to e; stone e to f; stone f to g; stone g to h;"
            + "pair g h; pair a h; pair a b;");
        dueAll("seven", new int[] {seven.orders(0), seven.orders(1), seven.orders(2), seven.orders(3)}, 5040, 5040, 1, 0);
        seven.swap(0, 6);
        dueAll("seven swapped", new int[] {seven.swaps(0), seven.swaps(1), seven.swaps(2), seven.swaps(3)}, 0, 0, 11, -2);
        seven.swap(1, 5);
        seven.swap(2, 4);
        due("all the other way round", seven.swaps(2), 21);
        due("first one", seven.orderAt(2, 6), 6);
        for (int i = 0; i < 7; i++) {
            due("first of all", seven.orderAt(0, i), i);
        }
        WordMill one = mill("stone b to c; stone a to b; stone q to r; pair a c;");
        dueAll("one pair", new int[] {one.orders(1), one.orderAt(1, 0), one.orderAt(1, 1), one.orderAt(1, 2), one.swaps(1)}, 3, 1, 0, 2, 1);
        WordMill many = mill("stone a to b; stone b to c; stone a to c; pair a c; pair b c; pair ab cc; pair ba cc;");
        dueAll("a to c by either", new int[] {many.orders(1), many.orders(4), many.orderAt(4, 0), many.orderAt(4, 2)}, 5, 5, 0, 2);
        due("all eight fit", mill("stone a to b;" + times(8, "pair a b;")).orders(8), 1);
        due("no stones", mill("pair a b;").orders(1), 0);
        due("no stones", mill("pair a a;").orders(1), 1);
        for (int n = 1; n <= 8; n++) {
            for (int p = 0; p < n; p++) {
                ordersThatOnePairTells(n, p);
            }
        }
    }

    /** Of n pairs alone the p-th tells which of two stones is ahead of the other; a third one changes nothing. */
    private static void ordersThatOnePairTells(int n, int p) {
        String stones = "stone a to none; stone b to a; stone q to r; ";
        String[] told = {"pair abx ax; ", "pair abx x; ", "pair ab a; "};
        int[][] due = {{3, 0, 1, 2, 0}, {3, 1, 0, 2, 1}, {3, 0, 1, 2, 0}};
        for (int i = 0; i < told.length; i++) {
            WordMill mill = mill(stones + times(p, "pair x x; ") + told[i] + times(n - 1 - p, "pair x x; "));
            dueAll(told[i] + "as the " + p + "-th of " + n, new int[] {mill.orders(n), mill.orderAt(n, 0), mill.orderAt(n, 1),
                mill.orderAt(n, 2), mill.swaps(n)}, due[i]);
            due("the pairs ahead of it tell nothing", mill.orders(p), 6);
        }
    }

    private static void sets() {
        says("promise 25");
        WordMill mill = mill("stone a to b; stone b to c; stone q to r; pair a c b; pair b c; pair aq cr b; pair a q r;");
        dueAll("sets", new int[] {mill.sets(0, false, 0), mill.sets(0, false, 1), mill.sets(1, false, 0), mill.sets(1, false, 1),
            mill.sets(3, false, 0), mill.sets(3, false, 1), mill.sets(4, false, 0), mill.sets(4, false, 1)}, 8, 0, 2, 3, 1, 7, 0, -2);
        dueAll("other", new int[] {mill.sets(0, true, 0), mill.sets(1, true, 0), mill.sets(1, true, 1), mill.sets(2, true, 0),
            mill.sets(3, true, 0), mill.sets(3, true, 1)}, 8, 2, 1, 2, 0, -2);
        dueAll("no such", new int[] {mill.sets(5, false, 0), mill.sets(-1, true, 0), mill.sets(0, false, 2), mill.sets(0, true, -1)},
            NONE, NONE, NONE, NONE);
        mill.turn(0);
        due("on or not", mill.sets(1, false, 0), 2);
        mill.swap(0, 1);
        dueAll("in the order as it is", new int[] {mill.sets(1, false, 0), mill.sets(1, false, 1), mill.sets(1, true, 0),
            mill.sets(1, true, 1)}, 0, -2, 4, 1);
        WordMill seven = mill(times(7, "stone a to b;") + "pair a b;");
        dueAll("seven", new int[] {seven.sets(0, false, 0), seven.sets(1, false, 0), seven.sets(1, false, 1)}, 128, 127, 1);
    }

    private static void list() {
        says("promise 26");
        WordMill mill = mill(MILL);
        dueAll("list", new int[] {mill.list(0), mill.list(1), mill.list(2), mill.list(3), mill.list(-1)}, 8, 4, 1, NONE, NONE);
        WordMill none = mill("stone a to b; pair a b; pair b b;");
        dueAll("fewer stones", new int[] {none.list(0), none.list(1), none.list(2)}, 2, 0, 1);
        WordMill alike = mill("stone a to b; stone a to b; pair aa bb;");
        dueAll("alike: fewest stones", new int[] {alike.list(0), alike.list(1), alike.list(2)}, 3, 0, 1);
        WordMill least = mill("stone q to r; stone a to b; stone a to b; pair aaa bbb;");
        dueAll("alike: least bits", new int[] {least.list(0), least.list(1), least.list(2)}, 3, 2, 0);
        WordMill told = mill("stone a to b; pair aaaaaaaa b; pair b b;");
        dueAll("letters of what is told to come out", new int[] {told.list(0), told.list(1), told.list(2)}, 2, 0, 1);
        WordMill few = mill("stone a to b; stone c to d; stone e to f; pair acacac bdbdbd; pair eea ffa;");
        dueAll("alike: fewest stones, more bits", new int[] {few.list(0), few.list(1), few.list(2)}, 10, 4, 1);
        WordMill two = mill("stone a to b; stone c to d; pair aca bdb; pair cac dbd; pair xa y;");
        dueAll("two stones, one pair beside", new int[] {two.list(0), two.list(1), two.list(2)}, 8, 3, 4);
        two.turn(0);
        two.turn(1);
        due("on or not", two.list(1), 3);
        dueAll("no pairs", new int[] {mill("stone a to b;").list(0), mill("stone a to b;").list(1)}, 0, 0);
    }

    private static void next() {
        says("promise 27");
        WordMill mill = mill("stone a to b; stone c to d; stone e to f; pair a b; pair x x; pair c d; pair ace bdf; pair eca fdb; pair a a;");
        dueAll("next", new int[] {mill.next(0, 0), mill.next(0, 1), mill.next(1, 0), mill.next(1, 1), mill.next(3, 0), mill.next(3, 1),
            mill.next(4, 0), mill.next(4, 1), mill.next(5, 0), mill.next(5, 1)}, 3, 8, 3, 4, 3, 2, 4, 1, 5, 1);
        dueAll("none", new int[] {mill.next(6, 0), mill.next(6, 1)}, -2, -2);
        dueAll("no such", new int[] {mill.next(7, 0), mill.next(-1, 0), mill.next(0, 2), mill.next(0, -1)}, NONE, NONE, NONE, NONE);
        WordMill unfit = mill("stone a to b; pair a c; pair a b;");
        dueAll("no set fits", new int[] {unfit.next(1, 0), unfit.next(1, 1), unfit.next(0, 0), unfit.next(0, 1)}, -2, -2, 0, 2);
        WordMill nothing = mill("stone a to none; pair x x; pair a a;");
        dueAll("nothing is a sort", new int[] {nothing.next(0, 0), nothing.next(0, 1)}, 1, 2);
    }

    private static void parted() {
        says("promise 28");
        WordMill mill = mill("stone a to b; stone b to c; stone c to d; pair a d c; pair x x; pair a q;");
        dueAll("parted", new int[] {mill.parted(0), mill.parted(1), mill.parted(2), mill.parted(3), mill.parted(4), mill.parted(-1)},
            3, 2, 2, -2, NONE, NONE);
        mill.turn(0);
        due("on or not", mill.parted(1), 2);
        WordMill far = mill("stone q to r; stone a to b; stone a to c; pair a c b; pair q r;");
        dueAll("by the order", new int[] {far.parted(1), far.parted(2)}, 1, 1);
        far.swap(0, 1);
        due("by the order", far.parted(1), 0);
        WordMill other = mill("stone a to b; pair a b c;");
        due("no set of the other tongue", other.parted(1), -2);
        WordMill apart = mill("stone a to b; stone b to c; pair b b c;");
        due("each its longest", apart.parted(1), 1);
        due("no stone at all", mill("stone a to b; pair a a a;").parted(1), 0);
        due("no stone in the other tongue", mill("stone a to b; stone q to r; pair a b a;").parted(1), 0);
    }

    private static void derived() {
        says("promise 29");
        WordMill mill = mill("stone a to b; stone b to c; stone c to d; stone d to e; stone e to f; stone a to c; stone x to none after edge;"
            + "word a; word c; word e; word f; word a; word xxxa; word g;");
        dueAll("how many", new int[] {mill.derived(0, 1, NONE), mill.derived(0, 2, NONE), mill.derived(0, 3, NONE), mill.derived(0, 4, NONE),
            mill.derived(0, 6, NONE), mill.derived(1, 0, NONE)}, 1, 3, 4, 0, -2, -2);
        dueAll("which", new int[] {mill.derived(0, 1, 0), mill.derived(0, 1, 1), mill.derived(0, 3, 0), mill.derived(0, 3, 1),
            mill.derived(0, 3, 2), mill.derived(0, 3, 3), mill.derived(0, 3, 4), mill.derived(0, 0, 0)}, 5, NONE, 5, 2, 3, 4, NONE, NONE);
        dueAll("any again, the first first", new int[] {mill.derived(5, 0, NONE), mill.derived(5, 0, 0), mill.derived(5, 0, 2),
            mill.derived(5, 1, NONE), mill.derived(5, 1, 0), mill.derived(5, 1, 1)}, 3, 6, 6, 4, 5, 6);
        due("not by 4", mill.derived(5, 2, 7), -2);
        dueAll("no such", new int[] {mill.derived(7, 0, NONE), mill.derived(0, 7, NONE), mill.derived(-1, 0, 0), mill.derived(0, -1, 0),
            mill.derived(0, 6, -2), mill.derived(0, 0, -2)}, NONE, NONE, NONE, NONE, NONE, NONE);
        mill.turn(5);
        due("on or not", mill.derived(0, 1, 0), 5);
        due("stone 0", mill("stone a to b; word a; word b;").derived(0, 1, 0), 0);
        WordMill now = mill("stone a to b; word a; word b;");
        now.centuries(1);
        due("as they are", now.derived(0, 1, NONE), 0);
    }

    private static void apart() {
        says("promise 30");
        WordMill mill = mill("stone z to none; word kitten; word sitting; word abcdefgh; word bcdefgha; word a; word zzzz; word ing; word ting;");
        dueAll("apart", new int[] {mill.apart(0, 1), mill.apart(1, 0), mill.apart(2, 3), mill.apart(2, 4), mill.apart(4, 5), mill.apart(2, 2)},
            3, 3, 2, 7, 4, 0);
        dueAll("no such", new int[] {mill.apart(8, 0), mill.apart(0, 8), mill.apart(-1, 0), mill.apart(0, -1)}, NONE, NONE, NONE, NONE);
        says("promise 31");
        dueAll("rhymes", new int[] {mill.rhymes(0, 1), mill.rhymes(1, 7), mill.rhymes(7, 6), mill.rhymes(2, 2), mill.rhymes(3, 4),
            mill.rhymes(4, 3)}, 0, 4, 3, 8, 1, 1);
        dueAll("no such", new int[] {mill.rhymes(8, 0), mill.rhymes(0, 8), mill.rhymes(-1, 0), mill.rhymes(0, -1)}, NONE, NONE, NONE, NONE);
        mill.centuries(1);
        dueAll("nothing left", new int[] {mill.apart(5, 4), mill.apart(2, 5), mill.apart(5, 5), mill.rhymes(5, 4), mill.rhymes(5, 5)},
            1, 8, 0, 0, 0);
    }

    private static void bestTurn() {
        says("promise 32");
        WordMill mill = mill("stone a to b; stone c to d; stone c to d; pair a a; pair aa aa; pair c c; pair ac ad; pair x x;");
        dueAll("best turn", new int[] {mill.bestTurn(0), mill.bestTurn(1), mill.bestTurn(2), mill.bestTurn(-1)}, 0, 4, NONE, NONE);
        mill.turn(0);
        dueAll("none is better", new int[] {mill.bestTurn(0), mill.bestTurn(1)}, -2, 4);
        mill.turn(1);
        mill.turn(2);
        dueAll("alike is not more", new int[] {mill.bestTurn(0), mill.bestTurn(1)}, -2, 4);
        WordMill first = mill("stone q to r; stone a to b; stone a to b; pair a b;");
        first.turn(1);
        first.turn(2);
        dueAll("of alike ones the first", new int[] {first.bestTurn(0), first.bestTurn(1)}, 1, 1);
    }

    private static void mostUsed() {
        says("promise 33");
        WordMill mill = mill("root a 1; root ab 2; root z 3; ending b 1; ending c 1; word abb; word abc; word abcc; word zzz; word ac;");
        dueAll("roots", new int[] {mill.mostUsed(0, 0), mill.mostUsed(0, 1)}, 0, 3);
        dueAll("endings", new int[] {mill.mostUsed(1, 0), mill.mostUsed(1, 1)}, 1, 5);
        dueAll("heads", new int[] {mill.mostUsed(2, 0), mill.mostUsed(2, 1)}, -2, -2);
        dueAll("no such", new int[] {mill.mostUsed(3, 0), mill.mostUsed(-1, 0), mill.mostUsed(0, 2), mill.mostUsed(0, -1), mill.mostUsed(2, 2)},
            NONE, NONE, NONE, NONE, NONE);
        due("forged", mill.forged(), 4);
        mill.grind(4);
        dueAll("of alike ones the first", new int[] {mill.mostUsed(0, 0), mill.mostUsed(0, 1)}, 1, 3);
        mill.grind(2);
        dueAll("whole ones alone", new int[] {mill.mostUsed(0, 0), mill.mostUsed(0, 1), mill.mostUsed(1, 0), mill.mostUsed(1, 1)}, 0, 2, 0, 4);
        says("promise 37");
        due("forged", mill.forged(), 4);
        mill.grind(0);
        mill.grind(1);
        due("forged", mill.forged(), 7);
        due("without roots", mill("word a;").forged(), 0);
        WordMill ran = mill("stone x to none; root a 1; root x 1; root ax 1; word ax;");
        due("behind a run", ran.forged(), 6);
        ran.turn(0);
        due("behind no stone", ran.forged(), 3);
        due("nothing used", mill("root a 1; root b 1;").mostUsed(0, 1), 0);
    }

    private static void lacks() {
        says("promise 34");
        WordMill mill = mill("root a 1; ending b 1; head c 1; head d 1; word ab; word a; land 5 a 1 b 2; land 6 a 3 d 1; land 7 b 1;");
        dueAll("lacks", new int[] {mill.lacks(0, 0), mill.lacks(1, 0), mill.lacks(2, 0), mill.lacks(2, 1)}, 4, 3, 0, 1);
        mill.grind(0);
        dueAll("lacks", new int[] {mill.lacks(0, 0), mill.lacks(1, 0)}, 3, 2);
        mill.sell(2);
        dueAll("a land sold to", new int[] {mill.lacks(0, 0), mill.lacks(1, 0)}, 3, 2);
        dueAll("no such", new int[] {mill.lacks(0, 1), mill.lacks(1, 1), mill.lacks(2, 2), mill.lacks(3, 0), mill.lacks(-1, 0), mill.lacks(0, -1)},
            NONE, NONE, NONE, NONE, NONE, NONE);
        WordMill enough = mill("root a 1; word a; word a; land 1 a 1;");
        enough.grind(0);
        enough.grind(1);
        due("more than enough", enough.lacks(0, 0), 0);
    }

    private static void future() {
        says("promise 35");
        WordMill mill = mill("stone a to b; stone c to d; stone e to f; word ace; word bdf; word q; seed 5;");
        dueAll("future", new int[] {mill.future(0, 0, 2), mill.future(0, 1, 2), mill.future(0, 1, 1), mill.future(0, 2, 1), mill.future(0, 6, 0),
            mill.future(0, 7, 0), mill.future(0, 7, 8), mill.future(0, 7, 9), mill.future(1, 6, 9), mill.future(1, 7, 9), mill.future(1, 300, 9)},
            5, 6, 3, 4, 1, 2, 3, 0, 0, 2, 2);
        dueAll("no such", new int[] {mill.future(3, 0, 0), mill.future(-1, 0, 0), mill.future(0, -1, 0), mill.future(0, 301, 0),
            mill.future(0, 0, 10), mill.future(0, 0, -1)}, NONE, NONE, NONE, NONE, NONE, NONE);
        says("promise 38");
        dueAll("lives", new int[] {mill.lives(0), mill.lives(1), mill.lives(2), mill.lives(3), mill.lives(-1)}, -2, 7, -2, NONE, NONE);
        says("promise 39");
        dueAll("left", new int[] {mill.left(0), mill.left(6), mill.left(7), mill.left(300), mill.left(301), mill.left(-1)},
            7, 7, 5, 5, NONE, NONE);
        due("nothing happened", wordOf(mill, 0), "ace");
        due("nothing happened", mill.count(7), 0);
        mill.centuries(3);
        dueAll("from where it is", new int[] {mill.lives(1), mill.left(3), mill.left(4), mill.future(0, 4, 0)}, 4, 7, 5, 2);
        mill.grind(0);
        dueAll("a ground one does not fall together", new int[] {mill.lives(0), mill.lives(1), mill.left(4), mill.future(0, 4, 9),
            mill.future(0, 4, 0)}, -2, -2, 6, 1, 1);
        WordMill far = mill("stone a to b; stone b to a; stone b to c; stone c to a; stone c to d; stone d to a; stone d to none; word a;"
            + "seed 53;");
        dueAll("not by 300", new int[] {far.lives(0), far.left(300)}, -2, 1);
        far.centuries(24);
        dueAll("by 301", new int[] {far.lives(0), far.left(300)}, -2, 1);
        far.centuries(1);
        dueAll("by 300", new int[] {far.lives(0), far.left(300), far.left(299), far.future(0, 300, 9)}, 300, 0, 1, 2);
        WordMill dead = mill("word a; word a;");
        dueAll("by the next century", new int[] {dead.lives(1), dead.left(1), dead.left(0)}, 1, 1, 3);
        dead.centuries(1);
        due("died already", dead.lives(1), -2);
    }

    private static void sales() {
        says("promise 36");
        WordMill mill = mill("root a 1; root b 1; word a; word a; word b; word b; land 10 a 2; land 6 a 1; land 5 a 1 b 1; land 1; land 11 a 1 b 2;");
        dueAll("nothing in stock", new int[] {mill.sales(0), mill.sales(1), mill.sales(2), mill.sales(-1)}, 1, 8, NONE, NONE);
        mill.grind(0);
        dueAll("one a", new int[] {mill.sales(0), mill.sales(1)}, 7, 10);
        mill.grind(1);
        dueAll("two a", new int[] {mill.sales(0), mill.sales(1)}, 11, 9);
        mill.grind(2);
        dueAll("two a, a b: alike ones", new int[] {mill.sales(0), mill.sales(1)}, 12, 14);
        mill.grind(3);
        dueAll("two a, two b", new int[] {mill.sales(0), mill.sales(1)}, 18, 26);
        mill.sell(1);
        dueAll("one sold to", new int[] {mill.sales(0), mill.sales(1)}, 12, 24);
        WordMill alike = mill("land 0; land 3; land 3; land 0;");
        dueAll("of alike ones the least bits", new int[] {alike.sales(0), alike.sales(1)}, 6, 6);
        WordMill either = mill("root a 1; word a; land 3 a 1; land 3 a 1;");
        either.grind(0);
        due("of alike ones the least bits", either.sales(1), 1);
    }

    private static void slots() {
        says("promises 40, 41");
        WordMill mill = mill(MILL);
        dueAll("nothing is held", new int[] {mill.restore(0) ? 1 : 0, mill.restore(3) ? 1 : 0, mill.restore(-1) ? 1 : 0}, 0, 0, 0);
        dueAll("no such", new int[] {mill.hold(3) ? 1 : 0, mill.hold(-1) ? 1 : 0}, 0, 0);
        due("hold", mill.hold(0), true);
        mill.turn(1);
        mill.swap(0, 2);
        mill.grind(2);
        due("hold", mill.hold(2), true);
        dueAll("counts", new int[] {mill.count(14), mill.count(13)}, 2, 3);
        mill.centuries(9);
        mill.feed(1, 2, 3, 4, 5);
        due("restore", mill.restore(0), true);
        dueAll("as it was", new int[] {mill.isOn(1), mill.order(0), mill.count(8), mill.count(7), mill.word(2, 9), mill.stock(0, 2)},
            1, 0, 0, 0, 0, 0);
        dueAll("the tape stays, nothing can be undone", new int[] {mill.count(12), mill.count(13), mill.undo() ? 1 : 0, mill.count(14)},
            20, 0, 0, 2);
        due("restore", mill.restore(2), true);
        dueAll("as it was", new int[] {mill.isOn(1), mill.order(0), mill.count(8), mill.word(2, 9), mill.stock(0, 2)}, 0, 2, 10, 1, 1);
        mill.turn(0);
        due("not the slot", mill.restore(2), true);
        due("as it was", mill.isOn(0), 1);
        due("pairs as they were", mill.pair(0, false), 0);
        due("again", mill.hold(2), true);
        due("count(14)", mill.count(14), 2);
        due("place stays", mill.place(), NONE);
        due("a new object", new WordMill().hold(0), true);
    }

    /** What would be is asked again behind each thing that changes it. */
    private static void staleness() {
        says("promises 22 to 28 behind things done");
        WordMill mill = mill("stone a to b; stone b to c; pair aaaa cccc cccc; pair bbbb cccc; seed 1;");
        dueAll("told", answers(mill), 1, 0, 0, 1, 3, 2, -2, 6);
        mill.swap(0, 1);
        dueAll("swapped", answers(mill), 1, 0, 1, 0, -2, -2, -2, 8);
        mill.undo();
        dueAll("undone", answers(mill), 1, 0, 0, 1, 3, 2, -2, 6);
        mill.turn(0);
        dueAll("turned", answers(mill), 0, -2, -2, 1, 3, 2, 0, 6);
        mill.hold(0);
        mill.turn(0);
        mill.swap(0, 1);
        dueAll("turned back and swapped", answers(mill), 1, 0, 1, 0, -2, -2, -2, 8);
        mill.restore(0);
        dueAll("restored", answers(mill), 0, -2, -2, 1, 3, 2, 0, 6);
        feed(mill, "stone a to c; pair a c; pair b b;");
        mill.read();
        dueAll("another text", answers(mill), 1, 0, 0, 1, 1, 1, -2, 2);
        says("terms: a text in place of the one ahead");
        WordMill again = mill("root a 1; root b 2; ending b 1; head c 1; land 9 a 1 b 2; word ab; seed 77; class ab c; brings = 7;");
        dueAll("made", new int[] {again.made(2, 0), again.made(1, 0)}, 4, 2);
        feed(again, "root q 1; root b 1; word q; land 3 b 1; land 4 q 1;");
        due("read", again.read(), 0);
        dueAll("counts", new int[] {again.count(0), again.count(2), again.count(3), again.count(4), again.count(6), again.count(16)},
            1, 2, 0, 0, 2, 0);
        dueAll("made", new int[] {again.made(1, 0), again.made(1, 1), again.made(2, 0)}, 2, 0, 0);
        dueAll("wants", new int[] {again.lacks(0, 0), again.lacks(0, 1), again.grind(0), again.sell(1) ? 1 : 0, again.count(8)}, 1, 1, 1, 1, 5);
        feed(again, "stone a to b; stone c to d; stone e to f; word ace;");
        again.read();
        again.centuries(1);
        due("seed 0 again", wordOf(again, 0), "acf");
        again.centuries(1);
        due("seed 0 again", wordOf(again, 0), "bcf");
        due("no pieces left", again.made(1, 0), 0);
        feed(again, "root a 1; root b 1; land 5; land 6; word a;");
        again.read();
        dueAll("no wants left", new int[] {again.lacks(0, 0), again.lacks(0, 1), again.sales(0), again.grind(0)}, 0, 0, 11, 1);
    }

    private static int[] answers(WordMill mill) {
        return new int[] {mill.orders(1), mill.orderAt(1, 0) < 0 ? mill.orderAt(1, 0) : 0, mill.swaps(1), mill.sets(1, false, 0),
            mill.sets(1, false, 1), mill.parted(1), mill.bestTurn(0), mill.list(0)};
    }

    private static final String FULL = "class ca ab; class cb bc; class cc cd; class cd de; class ce ae; class cf xy;"
        + "stone a to b after ca; stone b to c before cb; stone c to none after edge; stone d to a before edge;"
        + "stone e to d after cd before ce; stone a to e; stone b to none before cc;"
        + "root a 1; root b 2; root c 3; root d 4; root ab 5; root bc 6; root cd 7; root abcdabcd 9;"
        + "ending a 1; ending b 2; ending c 3; ending ab 4; ending bc 5; ending cd 6; head a 1; head b 2; head ab 3; head bc 4;"
        + "word abcdabcd; word bcdae; word abab; word d; word ad; word cad; word abcd; word eeb; word bb; word c;"
        + "pair abcdabcd e b; pair ade de a; pair bab ebe; pair dead dea ded; pair cab eb; pair a e e; pair d a a; pair e e d;"
        + "land 100 a 1 b 1 c 1 d 1; land 50 ab 1 bc 1 cd 1 abcdabcd 1; land 7 a 1; land 0 b 1; land 999 d 1;"
        + "brings = if tons < 3 then tons * 100 else if dust < 2 then left - turn else if 1 < heads then 5 else if ends < 1 then 9 else 7;"
        + "seed 4711;";

    /** As much of all as there is room for, every call with every number near what it takes, compared with the plain mill. */
    private static void fullest() {
        says("the fullest text");
        WordMill mill = mill(FULL);
        dueAll("full", new int[] {mill.count(0), mill.count(1), mill.count(2), mill.count(3), mill.count(4), mill.count(5), mill.count(6),
            mill.count(16)}, 10, 7, 8, 6, 4, 8, 5, 6);
        for (int a = -2; a <= 18; a++) {
            compare(a, false);
            compare(a, true);
        }
    }

    /** New mills for each number, since one object is used for at most 512 calls. */
    private static void compare(int a, boolean behindThingsDone) {
        WordMill mill = mill(FULL);
        PlainMill plain = new PlainMill();
        for (int at = 0; at < FULL.length(); at += 20) {
            int[] five = five(FULL, at);
            plain.feed(five[0], five[1], five[2], five[3], five[4]);
        }
        due("read", plain.read(), 0);
        if (behindThingsDone) {
            doThings(mill, plain);
        }
        compareOne(mill, plain, a);
        for (int b = -2; b <= 11 && a <= 11; b++) {
            compareTwo(mill, plain, a, b);
        }
    }

    private static void doThings(WordMill mill, PlainMill plain) {
        due("turn", mill.turn(6), plain.turn(6));
        due("swap", mill.swap(0, 6), plain.swap(0, 6));
        for (int w = 9; w >= 4; w--) {
            due("grind", mill.grind(w), plain.grind(w));
        }
        due("sell", mill.sell(4), plain.sell(4));
        due("sell", mill.sell(2), plain.sell(2));
        due("centuries", mill.centuries(2), plain.centuries(2));
    }

    private static void compareOne(WordMill mill, PlainMill plain, int a) {
        due("forged()", mill.forged(), plain.forged());
        due("count(" + a + ")", mill.count(a), plain.count(a));
        due("left(" + a * 20 + ")", mill.left(a * 20), plain.left(a * 20));
        due("jams(" + a + ")", mill.jams(a), plain.jams(a));
        due("order(" + a + ")", mill.order(a), plain.order(a));
        due("isOn(" + a + ")", mill.isOn(a), plain.isOn(a));
        due("orders(" + a + ")", mill.orders(a), plain.orders(a));
        due("swaps(" + a + ")", mill.swaps(a), plain.swaps(a));
        due("list(" + a + ")", mill.list(a), plain.list(a));
        due("parted(" + a + ")", mill.parted(a), plain.parted(a));
        due("bestTurn(" + a + ")", mill.bestTurn(a), plain.bestTurn(a));
        due("sales(" + a + ")", mill.sales(a), plain.sales(a));
        due("lives(" + a + ")", mill.lives(a), plain.lives(a));
        due("orderAt(" + a + ", " + a + ")", mill.orderAt(a, a), plain.orderAt(a, a));
        due("orderAt(0, " + a + ")", mill.orderAt(0, a), plain.orderAt(0, a));
    }

    private static void compareTwo(WordMill mill, PlainMill plain, int a, int b) {
        String both = "(" + a + ", " + b + ")";
        due("word" + both, mill.word(a, b), plain.word(a, b));
        due("run" + both, mill.run(a, b), plain.run(a, b));
        due("way" + both, mill.way(a, b), plain.way(a, b));
        due("stock" + both, mill.stock(a, b), plain.stock(a, b));
        due("pair" + both, mill.pair(a, b % 2 == 0), plain.pair(a, b % 2 == 0));
        due("next" + both, mill.next(a, b), plain.next(a, b));
        due("apart" + both, mill.apart(a, b), plain.apart(a, b));
        due("rhymes" + both, mill.rhymes(a, b), plain.rhymes(a, b));
        due("mostUsed" + both, mill.mostUsed(a, b), plain.mostUsed(a, b));
        due("lacks" + both, mill.lacks(a, b), plain.lacks(a, b));
        due("made" + both, mill.made(a + 2, b), plain.made(a + 2, b));
        due("sets" + both, mill.sets(a, b % 2 == 0, b / 2), plain.sets(a, b % 2 == 0, b / 2));
        due("stage" + both, mill.stage(a, b, 8), plain.stage(a, b, 8));
        due("future" + both, mill.future(a, 20 * b, b), plain.future(a, 20 * b, b));
        due("derived" + both, mill.derived(a, b, NONE), plain.derived(a, b, NONE));
        due("derived" + both, mill.derived(a, b, 0), plain.derived(a, b, 0));
    }

    private static void counts() {
        says("promise 42");
        WordMill mill = mill(MILL);
        dueAll("told", new int[] {mill.count(0), mill.count(1), mill.count(2), mill.count(3), mill.count(4), mill.count(5), mill.count(6),
            mill.count(16)}, 3, 3, 3, 2, 1, 2, 2, 1);
        dueAll("no such", new int[] {mill.count(17), mill.count(-1), mill.count(Integer.MIN_VALUE), mill.count(Integer.MAX_VALUE)},
            NONE, NONE, NONE, NONE);
        mill.turn(1);
        mill.grind(0);
        mill.centuries(2);
        mill.hold(1);
        mill.feed(0, 0, 0, 0, 0);
        dueAll("goes on", new int[] {mill.count(7), mill.count(8), mill.count(9), mill.count(10), mill.count(11), mill.count(12), mill.count(13),
            mill.count(14), mill.count(15)}, 2, 41, 0, 2, 0, 20, 3, 1, 4);
        due("sell", mill.sell(0), true);
        dueAll("goes on", new int[] {mill.count(8), mill.count(11), mill.count(15)}, 91, 1, 0);
    }
}
