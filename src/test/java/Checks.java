/** What tests have in common: texts are told to a mill, and answers are compared with those that are due. */
abstract class Checks {
    static final int NONE = WordMill.NONE;
    static final int TAPE = 2000;

    private static int wrong = 0;
    private static int asked = 0;
    private static String sentence = "";

    /** The promise, or its sentence, that the answers from here on belong to. */
    static void says(String promise) {
        sentence = promise;
    }

    static void due(String call, String got, String want) {
        asked++;
        if (!got.equals(want)) {
            wrong++;
            System.out.println(sentence + ": " + call + " answered " + got + ", due is " + want);
        }
    }

    static void due(String call, int got, int want) {
        due(call, String.valueOf(got), String.valueOf(want));
    }

    static void due(String call, boolean got, boolean want) {
        due(call, String.valueOf(got), String.valueOf(want));
    }

    /** Every call's answers, one behind the other. */
    static void dueAll(String call, int[] got, int... want) {
        due(call + " how many", got.length, want.length);
        for (int i = 0; i < Math.min(got.length, want.length); i++) {
            due(call + " the " + i + "-th", got[i], want[i]);
        }
    }

    /** Says how it went; an exit code of 1 if one answer was not as due. */
    static void end() {
        System.out.println(wrong == 0 ? asked + " answers are as due" : wrong + " of " + asked + " answers are not as due");
        if (wrong != 0 || asked == 0) {
            System.exit(1);
        }
    }

    /** The five ints of the twenty bytes of a text from a place on; blanks stand behind its end. */
    static int[] five(String text, int at) {
        int[] five = new int[5];
        for (int i = 0; i < 20; i++) {
            int b = at + i < text.length() ? text.charAt(at + i) & 255 : ' ';
            five[i / 4] = five[i / 4] << 8 | b;
        }
        return five;
    }

    static void feed(WordMill mill, String text) {
        for (int at = 0; at < text.length(); at += 20) {
            int[] five = five(text, at);
            mill.feed(five[0], five[1], five[2], five[3], five[4]);
        }
        mill.back((20 - text.length() % 20) % 20);
    }

    static int read(WordMill mill, String text) {
        feed(mill, text);
        return mill.read();
    }

    static WordMill mill(String text) {
        WordMill mill = new WordMill();
        due("read() of " + text, read(mill, text), 0);
        return mill;
    }

    static void fine(String text) {
        due("place() of " + text, mill(text).place(), NONE);
    }

    /** The text is told up to a bar, at which its fault stands. */
    static void fault(int number, String text) {
        faultAt(number, text.indexOf('|'), text.replace("|", ""));
    }

    static void faultAt(int number, int place, String text) {
        WordMill mill = mill("word z;");
        due("read() of " + text, read(mill, text), number);
        due("place() of " + text, mill.place(), place);
        due("count(0) behind " + text, mill.count(0), 1);
        due("count(12) behind " + text, mill.count(12), 0);
    }

    static String times(int n, String text) {
        return text.repeat(n);
    }

    private static String letter(int number) {
        return String.valueOf((char) ('a' - 1 + number));
    }

    static String wordOf(WordMill mill, int word) {
        StringBuilder s = new StringBuilder();
        for (int i = 0; i < mill.word(word, 8); i++) {
            s.append(letter(mill.word(word, i)));
        }
        return s.toString();
    }

    static String runOf(WordMill mill, int word) {
        StringBuilder s = new StringBuilder();
        for (int i = 0; i < mill.run(word, 8); i++) {
            s.append(letter(mill.run(word, i)));
        }
        return s.toString();
    }

    /** What stones leave of a word. */
    static void stone(String stones, String word, String left) {
        WordMill mill = mill("class vow aeiou; class dup xx; " + stones + " word " + word + ";");
        due("run of " + word + " by " + stones, runOf(mill, 0), left);
        due("size of it", mill.run(0, 8), left.length());
    }

    static int[] waysOf(WordMill mill, int word) {
        int[] codes = new int[mill.way(word, NONE)];
        for (int i = 0; i < codes.length; i++) {
            codes[i] = mill.way(word, i);
        }
        due("one way too many", mill.way(word, codes.length), NONE);
        return codes;
    }

    static int[] fates(WordMill mill) {
        int[] fates = new int[mill.count(0)];
        for (int w = 0; w < fates.length; w++) {
            fates[w] = mill.word(w, 9);
        }
        return fates;
    }

    /** All that goes on, and what is told, but not the tape: what a refused call leaves as it is. */
    static String goingOn(WordMill mill) {
        return mill.count(13) + " can be undone, " + mill.count(14) + " held: " + asItIs(mill);
    }

    /** What goes on and what is told, without what can be undone and what is held. */
    static String asItIs(WordMill mill) {
        StringBuilder s = new StringBuilder();
        for (int what = 0; what <= 16; what++) {
            s.append(what >= 12 && what <= 14 ? 0 : mill.count(what)).append(' ');
        }
        for (int p = 0; p < mill.count(1); p++) {
            s.append(mill.order(p)).append(mill.isOn(p) == 1 ? "+ " : "- ");
        }
        for (int w = 0; w < mill.count(0); w++) {
            s.append(wordOf(mill, w)).append(mill.word(w, 9)).append(' ');
        }
        for (int sort = 0; sort < 3; sort++) {
            for (int piece = 0; piece < mill.count(2 + sort); piece++) {
                s.append(mill.stock(sort, piece)).append(' ');
            }
        }
        return s.toString();
    }
}
