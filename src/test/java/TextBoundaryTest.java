/** Promises 1 to 5 and the texts of 'Terms': each sentence that names a boundary, with the least, the greatest and one beyond. */
public final class TextBoundaryTest extends Checks {
    private static final String[] QUOTED = {"class", "stone", "to", "none", "after", "before", "root", "ending", "head", "word", "pair",
        "land", "brings", "seed", "edge", "if", "then", "else", "ends", "heads", "tons", "dust", "turn", "left"};

    /** Where a NAME of any length may stand. */
    private static final String[][] NAMES = {{"class ", " ab;"}, {"class ab ", ";"}, {"root ", " 1;"}, {"ending ", " 1;"}, {"head ", " 1;"},
        {"word ", ";"}, {"pair ", " a;"}, {"pair a ", ";"}, {"pair a b ", ";"}, {"class abcdefgh x; stone a to b after ", ";"},
        {"class abcdefgh x; stone a to b before ", ";"}, {"class abcdefgh x; stone a to b after c before ", ";"},
        {"root abcdefgh 1; land 1 ", " 1;"}, {"ending x 1; head abcdefgh 1; land 1 x 1 ", " 1;"}};

    /** Where an INT stands. */
    private static final String[][] INTS = {{"root a ", ";"}, {"ending a ", ";"}, {"head a ", ";"}, {"land ", ";"}, {"root a 1; land 1 a ", ";"},
        {"seed ", ";"}, {"brings = ", ";"}, {"brings = tons + ", ";"}, {"brings = if ", " < 2 then 3 else 4;"}};

    /** Where an E stands. */
    private static final String[][] SUMS = {{"brings = ", ";"}, {"brings = if ", " < 1 then 2 else 3;"}, {"brings = if 1 < ", " then 2 else 3;"},
        {"brings = if 1 < 2 then ", " else 3;"}, {"brings = if 1 < 2 then 3 else ", ";"}, {"brings = 1 * ", " - 2;"}};

    /** A sort of tell, how many there may be, and which count() tells how many there are. */
    private static final String[][] SORTS = {{"class", "6", "16"}, {"stone", "7", "1"}, {"root", "8", "2"}, {"ending", "6", "3"},
        {"head", "4", "4"}, {"word", "10", "0"}, {"pair", "8", "5"}, {"land", "5", "6"}};

    public static void main(String[] args) {
        newObject();
        newObjectAsked();
        feedUpToFull();
        feedTakesTheHighestByteFirst();
        backToNothing();
        readEmptiesTheTape();
        placeOfTheLatestRead();
        bytesOfText();
        everyByte();
        names();
        quotedWords();
        ints();
        theLongestThatCanBe();
        whereATextMayEnd();
        oneMoreOfASort();
        allSortsFull();
        tokens();
        wants();
        ifs();
        brackets();
        firstByPlace();
        syntaxAndRoomAhead();
        twice();
        namesToldAhead();
        numbers();
        letters();
        faultChangesNothing();
        inPlaceOfTheOneAhead();
        nothingOfEarlierTexts();
        end();
    }

    // ---- promises 1 to 5

    private static void newObject() {
        says("promise 1: nothing is told");
        WordMill mill = new WordMill();
        for (int what = 0; what <= 16; what++) {
            due("count(" + what + ")", mill.count(what), 0);
        }
        due("NONE", WordMill.NONE, -1);
        due("place()", mill.place(), NONE);
        due("undo()", mill.undo(), false);
        for (int slot = -1; slot <= 3; slot++) {
            due("restore(" + slot + ")", mill.restore(slot), false);
        }
        due("nothing happened", goingOn(mill), goingOn(new WordMill()));
    }

    private static void newObjectAsked() {
        says("promise 1: nothing is told, and so there is nothing to be asked for");
        WordMill mill = new WordMill();
        dueAll("the first of each", new int[] {mill.word(0, 0), mill.word(0, 9), mill.run(0, 8), mill.stage(0, 0, 8), mill.jams(0),
            mill.way(0, NONE), mill.order(0), mill.isOn(0), mill.grind(0), mill.stock(0, 0), mill.stock(2, 0), mill.pair(0, false),
            mill.pair(0, true), mill.orders(1), mill.orderAt(0, 0), mill.orderAt(1, 0), mill.swaps(1), mill.sets(1, false, 0),
            mill.next(1, 0), mill.parted(1), mill.derived(0, 0, NONE), mill.apart(0, 0), mill.rhymes(0, 0), mill.lacks(0, 0),
            mill.future(0, 0, 0), mill.lives(0)}, NONE, NONE, NONE, NONE, NONE, NONE, NONE, NONE, NONE, NONE, NONE, NONE, NONE, NONE, NONE,
            NONE, NONE, NONE, NONE, NONE, NONE, NONE, NONE, NONE, NONE, NONE);
        dueAll("things done", new int[] {mill.turn(0) ? 1 : 0, mill.swap(0, 1) ? 1 : 0, mill.sell(0) ? 1 : 0, mill.centuries(0),
            mill.count(13)}, 0, 0, 0, 0, 0);
        dueAll("made", new int[] {mill.made(1, 0), mill.made(1, 1), mill.made(1, 2), mill.made(12, 0), mill.made(12, 2)}, 0, 0, -2, 0, -2);
        dueAll("of no pairs", new int[] {mill.orders(0), mill.swaps(0), mill.sets(0, false, 0), mill.sets(0, false, 1), mill.sets(0, true, 0),
            mill.sets(0, true, 1), mill.list(0), mill.list(1), mill.list(2), mill.next(0, 0), mill.next(0, 1), mill.parted(0),
            mill.bestTurn(0), mill.bestTurn(1)}, 1, 0, 1, 0, 1, 0, 0, 0, 0, -2, -2, 0, -2, 0);
        dueAll("of no pieces", new int[] {mill.mostUsed(0, 0), mill.mostUsed(1, 1), mill.mostUsed(2, 0), mill.forged(), mill.sales(0),
            mill.sales(1), mill.left(0), mill.left(300)}, -2, -2, -2, 0, 0, 0, 0, 0);
        due("a century goes by all the same", mill.centuries(1), 1);
        due("and is undone", mill.undo(), true);
        due("what there is can be held", mill.hold(0), true);
    }

    private static void feedUpToFull() {
        says("promise 2: NONE, and nothing comes, if it would have more than 2,000");
        WordMill mill = new WordMill();
        for (int n = 1; n <= 100; n++) {
            due("feed", mill.feed(Integer.MIN_VALUE, Integer.MAX_VALUE, -1, 0, n), 20 * n);
        }
        due("at 2,000", mill.feed(0, 0, 0, 0, 0), NONE);
        due("nothing comes", mill.count(12), 2000);
        due("back", mill.back(1), 1999);
        due("at 1,999", mill.feed(0, 0, 0, 0, 0), NONE);
        due("back", mill.back(18), 1981);
        due("at 1,981", mill.feed(0, 0, 0, 0, 0), NONE);
        due("nothing comes", mill.count(12), 1981);
        due("back", mill.back(1), 1980);
        due("at 1,980", mill.feed(0, 0, 0, 0, 0), 2000);
        due("back", mill.back(2000), 0);
        due("at 0", mill.feed(0, 0, 0, 0, 0), 20);
        says("promise 2: nothing comes, not even a part");
        WordMill part = new WordMill();
        feed(part, times(1990, " ") + "seed 1;");
        due("feed 'word aa;'", part.feed(0x776f7264, 0x2061613b, 0x20202020, 0x20202020, 0x20202020), NONE);
        due("count(12)", part.count(12), 1997);
        due("read", part.read(), 0);
        due("no word", part.count(0), 0);
    }

    private static void feedTakesTheHighestByteFirst() {
        says("promise 2: twenty bytes, the highest of a first, come behind the tape");
        WordMill mill = new WordMill();
        due("feed", mill.feed(0x776f7264, 0x20616263, 0x64656667, 0x683b776f, 0x72642069), 20);
        due("feed", mill.feed(0x6a6b6c6d, 0x6e3b2020, 0x20202020, 0x0a0d0920, 0x20202020), 40);
        due("read", mill.read(), 0);
        due("word 0", wordOf(mill, 0), "abcdefgh");
        due("word 1", wordOf(mill, 1), "ijklmn");
        due("count(0)", mill.count(0), 2);
    }

    private static void backToNothing() {
        says("promise 3: NONE, and nothing goes, if it has not so many, or n is below 0");
        WordMill mill = new WordMill();
        dueAll("nothing on the tape", new int[] {mill.back(0), mill.back(1), mill.back(-1), mill.back(Integer.MAX_VALUE),
            mill.back(Integer.MIN_VALUE)}, 0, NONE, NONE, NONE, NONE);
        feed(mill, "word ab;word cd;1");
        dueAll("17 bytes", new int[] {mill.back(18), mill.back(-1), mill.back(-17), mill.count(12), mill.back(0), mill.back(1)},
            NONE, NONE, NONE, 17, 17, 16);
        due("the last ones", mill.back(8), 8);
        due("read", mill.read(), 0);
        dueAll("told", new int[] {mill.count(0), mill.word(0, 8)}, 1, 2);
        feed(mill, times(TAPE, "x"));
        dueAll("all full", new int[] {mill.back(2001), mill.count(12), mill.back(2000), mill.back(1)}, NONE, 2000, 0, NONE);
    }

    private static void readEmptiesTheTape() {
        says("promise 4: the tape is empty then");
        WordMill mill = mill("word abc;");
        due("count(12)", mill.count(12), 0);
        due("back(1)", mill.back(1), NONE);
        due("with a fault", read(mill, "word"), 1);
        due("count(12)", mill.count(12), 0);
        due("back(1)", mill.back(1), NONE);
        due("it stands", wordOf(mill, 0), "abc");
        says("promise 4: a text of nothing is a text");
        due("read", mill.read(), 0);
        due("nothing is told", mill.count(0), 0);
        due("goes on", goingOn(mill), goingOn(new WordMill()));
        says("promise 4: 0, or the number of its FAULT");
        dueAll("1 to 5", new int[] {read(mill, ";"), read(mill, times(11, "word a;")), read(mill, "root a 1;root a 1;"),
            read(mill, "stone a to b after cd;"), read(mill, "root a 0;")}, 1, 2, 3, 4, 5);
    }

    private static void placeOfTheLatestRead() {
        says("promise 5: the byte of the latest read()'s FAULT; NONE without");
        WordMill mill = new WordMill();
        due("ahead of all reads", mill.place(), NONE);
        read(mill, "1");
        due("the first byte", mill.place(), 0);
        read(mill, times(1993, " ") + "word ab");
        due("the end of a text of 2,000 bytes", mill.place(), 2000);
        feed(mill, "seed 1;");
        due("a text that is not read yet", mill.place(), 2000);
        mill.read();
        due("without", mill.place(), NONE);
        read(mill, "word");
        due("the latest", mill.place(), 4);
        mill.read();
        due("nothing read is without", mill.place(), NONE);
        for (int fault = 1; fault <= 5; fault++) {
            due("read", read(mill, FAULTY[fault - 1]), fault);
            due("a place", mill.place() >= 0, true);
            due("read", read(mill, "word a;"), 0);
            due("without, behind a FAULT " + fault, mill.place(), NONE);
        }
    }

    // ---- tokens

    private static void bytesOfText() {
        says("terms: a TEXT has 2,000 bytes at most");
        WordMill mill = mill(times(1990, " ") + "word abcd;");
        due("the last ten", wordOf(mill, 0), "abcd");
        WordMill most = mill(times(TAPE, "\n"));
        due("blanks alone", most.count(0), 0);
        faultAt(1, 1999, times(1999, " ") + ";");
        faultAt(1, 1999, times(1993, " ") + "word a.");
        faultAt(1, 2000, times(1994, " ") + "word a");
        faultAt(1, 0, times(TAPE, "a"));
        faultAt(1, 0, times(TAPE, "7"));
        faultAt(1, 0, times(TAPE, "("));
    }

    private static void everyByte() {
        for (int b = 0; b < 256; b++) {
            char c = (char) b;
            boolean blank = b == 9 || b == 10 || b == 13 || b == 32;
            boolean letter = b >= 97 && b <= 122;
            says("terms: blanks (9, 10, 13, 32), letters a .. z; all else: byte " + b);
            if (blank) {
                fine(c + "word a;");
                fine("word a;" + c);
                fine("word" + c + c + "a" + c + ";");
            } else {
                faultAt(1, 0, c + "word a;");
                faultAt(1, 7, "word a;" + c);
            }
            if (blank || letter) {
                fine("word a" + c + ";");
            } else {
                faultAt(1, c == ';' ? 7 : 6, "word a" + c + ";");
            }
            byteOfNameOrInt(c, blank, letter);
            byteOfSign(c, blank);
        }
    }

    private static void byteOfNameOrInt(char c, boolean blank, boolean letter) {
        if (letter) {
            fine("word " + c + ";");
        } else {
            faultAt(1, blank ? 6 : 5, "word " + c + ";");
        }
        if (c >= '0' && c <= '9') {
            fine("seed " + c + ";");
        } else {
            faultAt(1, blank ? 6 : 5, "seed " + c + ";");
        }
    }

    private static void byteOfSign(char c, boolean blank) {
        if (c >= '0' && c <= '9' || c == '+' || c == '-' || c == '*' || c == '/') {
            fine("brings=1" + c + "1;");
        } else {
            faultAt(1, blank || c == ';' ? 9 : 8, "brings=1" + c + "1;");
        }
        if (c == '=') {
            fine("brings" + c + "1;");
        } else {
            faultAt(1, blank ? 7 : c >= 'a' && c <= 'z' ? 0 : 6, "brings" + c + "1;");
        }
        if (c == '<') {
            fine("brings=if 1 " + c + " 2 then 3 else 4;");
        } else {
            faultAt(1, blank ? 14 : "+-*/".indexOf(c) >= 0 ? 16 : 12, "brings=if 1 " + c + " 2 then 3 else 4;");
        }
        if (c == '(') {
            fine("brings=" + c + "1);");
        } else {
            faultAt(1, blank || c >= '0' && c <= '9' ? 9 : 7, "brings=" + c + "1);");
        }
        if (c == ')') {
            fine("brings=(1" + c + ";");
        } else {
            faultAt(1, blank || c >= '0' && c <= '9' || "+-*/".indexOf(c) >= 0 ? 10 : 9, "brings=(1" + c + ";");
        }
    }

    private static void names() {
        says("terms: NAMES (letters a .. z, 8 at most); a longer one is no TOKEN");
        for (String[] row : NAMES) {
            fine(row[0] + "abcdefgh" + row[1]);
            faultAt(1, row[0].length(), row[0] + "abcdefghi" + row[1]);
            faultAt(1, row[0].length(), row[0] + "zzzzzzzzzzzzzzzzz" + row[1]);
            faultAt(1, row[0].length(), row[0] + "Abcdefgh" + row[1]);
            faultAt(1, row[0].length(), row[0] + "1" + row[1]);
            boolean need = !row[0].equals("pair a b ") && !row[0].contains("land");
            if (need) {
                faultAt(1, row[0].length(), row[0] + ";");
            }
        }
        faultAt(1, 6, "stone aaaaaaaaa to b;");
        faultAt(1, 11, "stone a to bbbbbbbbb;");
        fine("word a; word z; pair a z; root a 1; ending z 1; head q 1; stone a to z; stone z to a;");
    }

    private static void quotedWords() {
        for (String word : QUOTED) {
            says("terms: NAMES, none of the words in quotes: " + word);
            for (String[] row : NAMES) {
                if (word.equals("edge") && row[0].startsWith("class abcdefgh")) {
                    fine(row[0] + word + row[1]);
                } else {
                    faultAt(1, row[0].length(), row[0] + word + row[1]);
                }
            }
            faultAt(1, 6, "stone " + word + " to a;");
            if (word.equals("none")) {
                fine("stone a to none;");
            } else {
                faultAt(1, 11, "stone a to " + word + ";");
            }
            fine("word " + word + "x; word x" + word + ";");
            String shorter = word.substring(0, word.length() - 1);
            if (!java.util.List.of(QUOTED).contains(shorter)) {
                fine("word " + shorter + ";");
            }
        }
    }

    private static void ints() {
        says("terms: INTS (1 to 4 digits); a longer one is no TOKEN");
        for (String[] row : INTS) {
            fine(row[0] + "1" + row[1]);
            fine(row[0] + "0001" + row[1]);
            faultAt(1, row[0].length(), row[0] + "00001" + row[1]);
            faultAt(1, row[0].length(), row[0] + "12345678901234567890" + row[1]);
            faultAt(1, row[0].length(), row[0] + ";");
            faultAt(1, row[0].length(), row[0] + "-1" + row[1]);
            faultAt(1, row[0].length(), row[0] + "a" + row[1]);
            faultAt(1, row[0].length() + 2, row[0] + "1 1" + row[1]);
        }
        fine("seed 9999; seed 0000; brings = 9999;");
        faultAt(1, 5, "seed 00000;");
    }

    private static void theLongestThatCanBe() {
        says("terms: TOKENS, the longest that can be, with blanks between or not");
        fine("root ab1;ending c9;land5ab1c2;seed12;brings=if1<2then3else4+tons*(5-6)/7;");
        fine("word\na\r;\tword b ; ");
        fault(1, "|worda;");
        fault(1, "|wo rd a;");
        fault(1, "word a |b;");
        fault(1, "seed 1 |2;");
        fault(1, "stone a |tob;");
        fault(1, "stone a to|1;");
        fault(1, "brings = 1 |then;");
        fault(1, "brings = |iff 1 < 2 then 3 else 4;");
    }

    /** A text that breaks off anywhere but behind a tell has its fault at its length. */
    private static void whereATextMayEnd() {
        says("terms: the text's end: its length");
        String text = "class ab c ; stone a to b after ab before edge ; root r 1 ; ending e 2 ; head h 3 ; word w ; pair a b c ;"
            + " land 5 r 1 e 2 ; brings = if 1 < ( 2 ) then 3 else tons / 4 ; seed 5 ;";
        for (int at = 0; at < text.length(); at++) {
            boolean behindToken = at == 0 || text.charAt(at) == ' ' || text.charAt(at - 1) == ' ';
            if (behindToken) {
                String begun = text.substring(0, at);
                if (begun.isBlank() || begun.strip().endsWith(";")) {
                    fine(begun);
                } else {
                    faultAt(1, at, begun);
                    faultAt(1, at + 3, begun + " \t\n");
                }
            }
        }
    }

    // ---- room

    private static String tell(String sort, int i) {
        String name = String.valueOf((char) ('a' + i));
        switch (sort) {
            case "class": return "class c" + name + " a; ";
            case "stone": return "stone a to b; ";
            case "word": return "word a; ";
            case "pair": return "pair a b; ";
            case "land": return "land 1; ";
            default: return sort + " " + name + " 1; ";
        }
    }

    private static String tells(String sort, int n) {
        StringBuilder s = new StringBuilder();
        for (int i = 0; i < n; i++) {
            s.append(tell(sort, i));
        }
        return s.toString();
    }

    private static void oneMoreOfASort() {
        for (String[] row : SORTS) {
            String sort = row[0];
            int most = Integer.parseInt(row[1]);
            int which = Integer.parseInt(row[2]);
            says("terms: " + most + " at most, one more of a sort (at its first TOKEN): " + sort);
            due("none", mill("").count(which), 0);
            due("one", mill(tells(sort, 1)).count(which), 1);
            due("one less", mill(tells(sort, most - 1)).count(which), most - 1);
            due("the most", mill(tells(sort, most)).count(which), most);
            String full = tells(sort, most);
            faultAt(2, full.length(), full + tell(sort, most));
            faultAt(2, full.length(), full + sort);
            faultAt(2, full.length(), full + sort + " ;");
            faultAt(2, full.length() + 7, full + "seed 1;" + tell(sort, most) + tell(sort, most));
        }
        says("terms: BRINGS, SEED: the last one, of as many as there are");
        fine(times(40, "seed 1; brings = 2;"));
    }

    private static void allSortsFull() {
        says("terms: each sort as many as there may be, all in one text");
        StringBuilder s = new StringBuilder();
        for (String[] row : SORTS) {
            s.append(tells(row[0], Integer.parseInt(row[1])));
        }
        WordMill mill = mill(s.toString());
        for (String[] row : SORTS) {
            due("count of " + row[0], mill.count(Integer.parseInt(row[2])), Integer.parseInt(row[1]));
            faultAt(2, s.length(), s + tell(row[0], 9));
        }
    }

    /** A text of just so many TOKENS, without a fault. */
    private static String of(int tokens) {
        String odd = tokens % 2 == 0 ? "" : "word a;";
        int law = tokens % 2 == 0 ? tokens : tokens - 3;
        return odd + "brings=1" + times((law - 4) / 2, "+1") + ";";
    }

    private static void tokens() {
        says("terms: 400 TOKENS at most, a 401st");
        fine(of(399));
        fine(of(400));
        fine(of(400) + " \t\r\n");
        String[] tells = {"class ab c ;", "stone a to none after b before edge ;", "stone a to b after c before d ;", "root r 1 ;",
            "ending e 2 ;", "head h 3 ;", "word w ;", "pair a b c ;", "root r 1 ; ending e 2 ; land 5 r 1 e 2 ;", "seed 5 ;",
            "brings = if 1 < ( ends ) then 3 - 4 else if 5 < 6 then heads else ( tons * dust ) / turn + left ;"};
        for (String tell : tells) {
            String[] own = tell.split(" ");
            fine(of(400 - own.length) + tell);
            int place = 0;
            for (int t = 0; t < own.length; t++) {
                String ahead = of(400 - t);
                faultAt(2, ahead.length() + place, ahead + tell);
                place += own[t].length() + 1;
            }
        }
        says("terms: a 401st TOKEN with which no text goes on: of one place the least");
        for (String other : new String[] {";", "a", "1", "(", "none", "abcdefghi", "12345", ".", "\u0000", "\u00ff"}) {
            faultAt(1, of(400).length(), of(400) + other);
        }
        says("terms: 400 TOKENS, and the text's end is none");
        String open = of(400).substring(0, of(400).length() - 1);
        faultAt(1, open.length(), open);
        faultAt(1, open.length() + 1, open + "+");
        faultAt(1, open.length() + 2, open + "+ ");
        faultAt(2, open.length() + 1, open + "+1");
        faultAt(2, open.length() + 1, open + "+(");
        faultAt(1, open.length() + 1, open + "+;");
    }

    private static void wants() {
        says("terms: WANTS, 4 at most; a 5th want of a land (at its NAME)");
        String pieces = "root a 1; root b 1; ending c 1; head d 1; head e 1; ";
        fine(pieces + "land 1;");
        fine(pieces + "land 1 a 1;");
        fine(pieces + "land 1 a 1 b 1 c 1 d 1; land 2 b 1 c 1 d 1 e 1;");
        fault(2, pieces + "land 1 a 1 b 1 c 1 d 1 |e 1;");
        fault(2, pieces + "land 1 a 1 b 1 c 1 d 1 |e;");
        fault(2, pieces + "land 1 a 1 b 1 c 1 d 1 |a 0 b 1;");
        fault(2, pieces + "land 1 a 1; land 2; land 1 a 1 b 1 c 1 d 1 |nope");
        fault(1, pieces + "land 1 a 1 b 1 c 1 d 1 |1;");
        fault(1, pieces + "land 1 a 1 b 1 c 1 d 1 |land 1;");
        fault(1, pieces + "land 1 a 1 b 1 c 1 d |e 1;");
    }

    private static void ifs() {
        says("terms: a 5th if of a LAW (at it)");
        String branch = "if 1 < 2 then 3 else ";
        fine("brings = 5;");
        fine("brings = " + branch + "5;");
        fine("brings = " + times(3, branch) + "5;");
        fine("brings = " + times(4, branch) + "5;");
        fault(2, "brings = " + times(4, branch) + "|" + branch + "5;");
        fault(2, "brings = " + times(4, branch) + "|if");
        fault(2, "brings = " + times(4, branch) + "|if ;");
        fault(2, "brings = " + times(4, branch) + "|" + branch + branch + "5;");
        fine("brings = " + times(4, branch) + "5; brings = " + times(4, branch) + "6;");
        fault(1, "brings = " + times(4, branch) + "|;");
    }

    private static void brackets() {
        says("terms: a 7th ( within one another (at it)");
        for (String[] row : SUMS) {
            fine(row[0] + "(1)" + row[1]);
            fine(row[0] + "((((((1))))))" + row[1]);
            fine(row[0] + "((((((1))))))+((((((2))))))*((((((3))))))" + row[1]);
            fine(row[0] + "((((((1+2)))*(3))))" + row[1]);
            faultAt(2, row[0].length() + 6, row[0] + "(((((((1)))))))" + row[1]);
            faultAt(2, row[0].length() + 6, row[0] + "(((((((");
            faultAt(2, row[0].length() + 6, row[0] + "((((((((((1" + row[1]);
            faultAt(2, row[0].length() + 8, row[0] + "((((((1+(2)))))))" + row[1]);
            faultAt(2, row[0].length() + 10, row[0] + "((((((1)+((2)))))))" + row[1]);
            faultAt(1, row[0].length() + 6, row[0] + "(((((()))))" + row[1]);
        }
        faultAt(1, 15, "brings = ((((((");
        faultAt(1, 10, "brings = 1);");
        faultAt(1, 12, "brings = (1)) + 2;");
    }

    // ---- which fault

    private static void firstByPlace() {
        says("terms: FAULTS 1 and 2, the first by its place");
        fault(2, times(10, "word a;") + "|word a; ;");
        fault(1, "word |1;" + times(11, "word a;"));
        fault(2, "brings = ((((((|(((1; word;");
        fault(1, "brings = ((((((1|;" + times(11, "word a;"));
        fault(1, "|! ! word;");
        says("terms: FAULTS 3 to 5, the first by its place");
        fault(5, "root a |0; root a 1; stone a to b after xy; land 1000;");
        fault(4, "land 1 |a 1; root a 0; class a b;");
        fault(3, "head a 1; head |a 0; land 1 b 1;");
        fault(5, "class |a b; class a c;");
        fault(3, "class ab c; class |ab d; class a b;");
        fault(5, "land |1000 a 0;");
        fault(4, "land 999 |a 0;");
        fault(5, "root a 1; land 999 a |0 b 1;");
        fault(3, "root a 1; land 999 a 1 |a 0;");
        fault(5, "stone |ab to cd after xy;");
        fault(5, "stone a to |cd after xy;");
        fault(4, "stone a to c after |xy before zz;");
    }

    private static void syntaxAndRoomAhead() {
        says("terms: if there is none of 1 and 2, likewise 3 to 5");
        fault(1, "root a 0; land 1000; class a b; word |1;");
        fault(2, "root a 0; stone ab to c; " + times(10, "word a; ") + "|word a;");
        fault(1, "class ab c; class ab c; land 1 q 1|");
        fault(2, "land 1000; brings = ((((((|(1)))))));");
        fault(1, "root a 1; root a 1;|.");
    }

    private static void twice() {
        says("terms: 3 TWICE: told already by that NAME (each sort for itself, at the NAME)");
        fault(3, "class ab c; class |ab c;");
        fault(3, "class ab c; class ac c; class ad e; class |ab f;");
        fault(3, "class abcdefgh c; class |abcdefgh f;");
        fine("class ab a; class abc a; class ba a; class abcdefgh a; class abcdefga a;");
        for (String sort : new String[] {"root", "ending", "head"}) {
            fault(3, sort + " a 1; " + sort + " |a 1;");
            fault(3, sort + " a 1; " + sort + " b 1; " + sort + " |a 2;");
            fault(3, sort + " abcdefgh 1; " + sort + " |abcdefgh 0;");
            fine(sort + " a 1; " + sort + " aa 1; " + sort + " abcdefgh 1; " + sort + " bcdefgh 1;");
        }
        fine("class ab x; root ab 1; ending ab 1; head ab 1; word ab; pair ab ab ab;");
        fine("word a; word a; pair a b; pair a b; land 1; land 1; stone a to b; stone a to b; seed 1; seed 1; brings = 1; brings = 1;");
        says("terms: 3 TWICE: a PIECE again in one land");
        fault(3, "root a 1; land 1 a 1 |a 1;");
        fault(3, "ending a 1; land 1 a 1 |a 2;");
        fault(3, "head a 1; root b 1; land 1 a 1 b 1 |a 1;");
        fault(3, "root a 1; root b 1; root c 1; land 1 a 99 b 1 c 1 |a 99;");
        fault(3, "root a 1; ending a 1; head a 1; land 1 a 1 |a 1;");
        fault(3, "root a 1; land 1 a 1; land 1 a 1 |a 1;");
        fine("root a 1; root b 1; land 1 a 1 b 1; land 1 b 1 a 1;");
    }

    private static void namesToldAhead() {
        says("terms: 4 NAME: no such CLASS told ahead (a Z of 2 letters or more)");
        fine("stone a to b after x before y;");
        fault(4, "stone a to b after |xy;");
        fault(4, "stone a to b before |xy;");
        fault(4, "stone a to b after edge before |xyzxyzxy;");
        fault(4, "stone a to b after |xy; class xy z;");
        fault(4, "root xy 1; ending xy 1; head xy 1; word xy; stone a to b after |xy;");
        fault(4, "class xyz a; stone a to b after |xy;");
        fault(4, "class xy a; stone a to b after xy before |yx;");
        fine("class xy z; stone a to b after xy before xy; stone c to d after edge before xy;");
        says("terms: 4 NAME: no such PIECE told ahead");
        fault(4, "land 1 |a 1;");
        fault(4, "land 1 |a 1; root a 1;");
        fault(4, "root a 1; ending b 1; head c 1; land 1 a 1 b 1 c 1 |d 1;");
        fault(4, "class ab c; word ab; pair ab ab; land 1 |ab 1;");
        fault(4, "root ab 1; land 1 |a 1;");
        says("terms: ROOTS are looked at first, then ENDINGS, then HEADS");
        dueAll("all three", lacksOf("head a 1; ending a 1; root a 1; land 1 a 5;"), 5, 0, 0);
        dueAll("the ROOT told too late", lacksOf("head a 1; ending a 1; land 1 a 5; root a 1;"), 0, 5, 0);
        dueAll("the HEAD alone told ahead", lacksOf("head a 1; land 1 a 5; ending a 1; root a 1;"), 0, 0, 5);
    }

    private static int[] lacksOf(String text) {
        WordMill mill = mill(text);
        return new int[] {mill.lacks(0, 0), mill.lacks(1, 0), mill.lacks(2, 0)};
    }

    private static void numbers() {
        says("terms: 5 WRONG: TONS 1 .. 9");
        for (String sort : new String[] {"root", "ending", "head"}) {
            fine(sort + " a 1;" + sort + " b 9;" + sort + " c 0009;");
            fault(5, sort + " a |0;");
            fault(5, sort + " a |0000;");
            fault(5, sort + " a |10;");
            fault(5, sort + " a |9999;");
        }
        says("terms: 5 WRONG: PAYS 0 .. 999");
        fine("land 0; land 999; land 0999; land 1;");
        fault(5, "land |1000;");
        fault(5, "land 0; land |9999;");
        says("terms: 5 WRONG: WANTS 1 .. 99");
        fine("root a 1; land 0 a 1; land 0 a 99; land 0 a 0099;");
        fault(5, "root a 1; land 0 a |0;");
        fault(5, "root a 1; land 0 a |100;");
        fault(5, "root a 1; root b 1; land 0 b 99 a |9999;");
        says("terms: SEED 0 .. 9999, and the INTS of a LAW: all that there are");
        fine("seed 0; seed 9999; brings = 0; brings = 9999;");
    }

    private static void letters() {
        says("terms: 5 WRONG: a CLASS's NAME of one letter (at the NAME)");
        fault(5, "class |a bc;");
        fault(5, "class |z z;");
        fine("class aa b; class ab bcdefghi; class abcdefgh bb;");
        says("terms: 5 WRONG: a stone's letter, or what it comes to, of more than one");
        fine("stone a to z; stone z to a; stone q to q; stone q to none;");
        fault(5, "stone |ab to c;");
        fault(5, "stone |abcdefgh to none;");
        fault(5, "stone a to |bc;");
        fault(5, "stone a to |abcdefgh;");
    }

    // ---- what a text comes in place of

    private static final String SMALL = "stone a to b; stone c to none; root b 2; ending b 3; head c 1; word ca; word acb; word a; word da;"
        + "pair a b; land 7 b 1; land 8; brings = tons + dust; seed 5; class xy ab;";

    /** A text of each FAULT, by its number. */
    private static final String[] FAULTY = {"word q; word", times(6, "class ab c;") + "class", "root a 1; root a 1;", "word q; land 1 q 1;",
        "land 1000; word q;"};

    private static WordMill used() {
        WordMill mill = mill(SMALL);
        mill.turn(1);
        mill.swap(0, 1);
        mill.grind(2);
        mill.sell(0);
        mill.grind(3);
        mill.centuries(2);
        mill.hold(2);
        return mill;
    }

    private static void faultChangesNothing() {
        for (int fault = 1; fault <= 5; fault++) {
            says("terms: a text with a FAULT changes nothing but the tape: " + fault);
            WordMill mill = used();
            String before = goingOn(mill);
            due("read", read(mill, FAULTY[fault - 1]), fault);
            due("goes on", goingOn(mill), before);
            due("count(12)", mill.count(12), 0);
            dueAll("what is told", new int[] {mill.lacks(0, 0), mill.sales(0), mill.pair(0, false), mill.made(2, 0)}, 0, 8, 1, 2);
            due("undo", mill.undo(), true);
            due("the centuries are undone", mill.count(7), 0);
            due("restore", mill.restore(2), true);
            due("the century held", mill.count(7), 2);
            due("restore", mill.restore(1), false);
        }
    }

    private static void inPlaceOfTheOneAhead() {
        says("terms: else it is in place of the one ahead");
        String fresh = goingOn(mill(SMALL));
        WordMill mill = used();
        due("something is done", goingOn(mill).equals(fresh), false);
        due("read", read(mill, SMALL), 0);
        due("all as told", goingOn(mill), fresh);
        due("nothing can be undone", mill.undo(), false);
        for (int slot = 0; slot < 3; slot++) {
            due("SLOTS hold nothing", mill.restore(slot), false);
        }
        dueAll("counts", new int[] {mill.count(7), mill.count(8), mill.count(9), mill.count(10), mill.count(11), mill.count(13), mill.count(14),
            mill.count(15)}, 0, 0, 0, 4, 0, 0, 0, 0);
        says("terms: BRINGS (tons, if not told), SEED (0), of the text alone");
        WordMill other = mill("root a 5; word a; brings = 77; seed 9;");
        due("the LAW", other.grind(0), 77);
        due("read", read(other, "root q 5; word q; word b;" + ABC), 0);
        due("no LAW", other.grind(0), 5);
        due("without a WAY", other.grind(1), 0);
        other.centuries(1);
        due("SEED 0", wordOf(other, 2), wordOf(oneCentury("seed 0;" + ABC), 0));
        due("unlike SEED 9", wordOf(oneCentury("seed 9;" + ABC), 0).equals(wordOf(oneCentury(ABC), 0)), false);
        due("the last SEED", wordOf(oneCentury("seed 0;" + ABC + "seed 9;"), 0), wordOf(oneCentury("seed 9;" + ABC), 0));
        due("the last LAW", mill("word a; brings = 1; brings = 2;").grind(0), 2);
        says("terms: a shorter text leaves nothing of a longer one");
        due("read", read(mill, "word q;"), 0);
        due("goes on", goingOn(mill), goingOn(mill("word q;")));
    }

    private static final String EARLIER = "class xy a; class zw b; root r 5; ending e 2; head h 3; word q; word qq; pair a b c; stone a to b;"
        + "land 9 r 5 e 5 h 5; brings = 77; seed 9;";

    /** Behind a text told, one of nothing and one with a FAULT: nothing of these is in the next one. */
    private static void nothingOfEarlierTexts() {
        says("terms: told already, told ahead, as told: in the text itself");
        String[] fresh = {"class xy c;", "root r 1; ending e 1; head h 1;", "word q;", "seed 0;"};
        for (String text : fresh) {
            due("read() of " + text, read(behindOthers(), text), 0);
        }
        String[] untold = {"stone a to b after xy;", "stone a to b before zw;", "class ab c; stone a to b after xy;", "land 1 r 1;", "land 1 e 1;",
            "land 1 h 1;", "root a 1; ending b 1; head c 1; land 1 a 1 b 1 c 1 r 1;", "root r 1; land 1 r 1 e 1;"};
        for (String text : untold) {
            due("read() of " + text, read(behindOthers(), text), 4);
        }
        WordMill mill = behindOthers();
        due("read", read(mill, "root r 1; ending e 1; head h 1; word r; word q; pair a a; land 1; land 2 r 1;" + ABC), 0);
        dueAll("counts", new int[] {mill.count(0), mill.count(1), mill.count(5), mill.count(6), mill.count(16)}, 3, 5, 1, 2, 0);
        dueAll("no more WANTS, no LAW, no OTHER tongue", new int[] {mill.lacks(0, 0), mill.lacks(1, 0), mill.lacks(2, 0), mill.pair(0, true),
            mill.grind(0), mill.grind(1), mill.sell(0) ? 1 : 0}, 1, 0, 0, -2, 1, 0, 1);
        mill.centuries(1);
        due("SEED 0", wordOf(mill, 2), wordOf(oneCentury(ABC), 0));
    }

    private static WordMill behindOthers() {
        WordMill mill = mill(EARLIER);
        due("of nothing", mill.read(), 0);
        due("with a FAULT at its end", read(mill, EARLIER + "land 1000;"), 5);
        return mill;
    }

    private static final String ABC = "stone a to b; stone c to d; stone e to f; stone g to h; stone i to j; word acegi;";

    private static WordMill oneCentury(String text) {
        WordMill mill = mill(text);
        mill.centuries(1);
        return mill;
    }
}
