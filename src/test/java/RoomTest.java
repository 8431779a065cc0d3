import java.lang.management.ManagementFactory;

/** As many of the dearest calls as an object may be asked make far less than the room of one run has (7.3 million elements). */
public final class RoomTest {
    private static final long MOST_BYTES = 4_000_000;
    private static final int MOST_CALLS = 512 - 60;

    private static long made() {
        return ((com.sun.management.ThreadMXBean) ManagementFactory.getThreadMXBean()).getCurrentThreadAllocatedBytes();
    }

    private static void feed(WordMill mill, byte[] text) {
        for (int at = 0; at + 20 <= text.length; at += 20) {
            mill.feed(four(text, at), four(text, at + 4), four(text, at + 8), four(text, at + 12), four(text, at + 16));
        }
    }

    private static int four(byte[] text, int at) {
        return text[at] << 24 | text[at + 1] << 16 | text[at + 2] << 8 | text[at + 3];
    }

    private static byte[] bytes(String text) {
        return (text + " ".repeat((20 - text.length() % 20) % 20)).getBytes(java.nio.charset.StandardCharsets.US_ASCII);
    }

    /** Stones of which nearly every order leaves something else. */
    private static final String TEXT = "stone a to b after c; stone b to c before a; stone c to a after b; stone a to c before b;"
        + "stone b to a after a; stone c to b before c; stone a to none after a;"
        + "pair abcabcab a b; pair bcabcaab a b; pair cabcabbc a b; pair aabbccab a b; pair abacabca a b; pair bbacacba a b;"
        + "pair cbacbacb a b; pair acbacbac a b;"
        + "root a 1; root b 1; root c 1; root ab 1; root bc 1; root ca 1; root abc 1; root bca 1; ending a 1; ending b 1; ending c 1;"
        + "ending ab 1; ending bc 1; ending ca 1; head a 1; head b 1; head c 1; head ab 1;"
        + "word abcabcab; word bcabcaab; word cabcabbc; word aabbccab; word abacabca; word abcd;";

    public static void main(String[] args) {
        byte[] text = bytes(TEXT);
        long worst = 0;
        for (int which = 0; which < 4; which++) {
            worst = Math.max(worst, run(text, which));
        }
        System.out.println("at most " + worst + " bytes made");
        if (worst > MOST_BYTES) {
            System.exit(1);
        }
    }

    private static long run(byte[] text, int which) {
        long before = made();
        WordMill mill = new WordMill();
        int calls = tell(mill, text);
        for (int i = 0; calls < MOST_CALLS; i++) {
            calls += which == 0 ? turnAndOrder(mill, i) : which == 1 ? lookAhead(mill, i) : which == 2 ? tellShort(mill)
                : tellAll(mill, text);
        }
        return made() - before;
    }

    /** Each of these answers how many calls it made. */
    private static int tell(WordMill mill, byte[] text) {
        feed(mill, text);
        if (mill.read() != 0) {
            System.out.println("the text has a fault");
            System.exit(1);
        }
        return text.length / 20 + 1;
    }

    private static int turnAndOrder(WordMill mill, int i) {
        mill.turn(i % 7 < 3 ? 0 : 1);
        mill.orders(8);
        return 2;
    }

    private static int lookAhead(WordMill mill, int i) {
        mill.made(1 + i % 12, i % 3);
        mill.left(300 - i);
        mill.next(i % 9, 0);
        mill.list(0);
        mill.apart(i % 6, 1);
        mill.derived(i % 6, 1, -1);
        mill.mostUsed(1, 0);
        mill.swap(i % 7, 0);
        return 8;
    }

    private static int tellShort(WordMill mill) {
        mill.feed(0x776f7264, 0x20616263, 0x3b202020, 0x20202020, 0x20202020);
        mill.read();
        return 2;
    }

    private static int tellAll(WordMill mill, byte[] text) {
        int calls = tell(mill, text);
        for (int n = 1; n <= 12; n++) {
            mill.made(n, 0);
        }
        mill.orders(8);
        return calls + 13;
    }
}
