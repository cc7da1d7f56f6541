import java.util.ArrayList;
import java.util.List;
import java.util.NoSuchElementException;

/** One object under test, told texts as texts; what is not as due is printed and counted. */
final class Kit {
    static final int NO_SUCH = 1_000_001;
    static final int WRONG = 1_000_002;
    private static int wrong;
    private static int asked;
    private static final List<String> SAID = new ArrayList<>();
    private static String sentence = "";
    private static int askedAhead;

    final NegotiatedWires wires = new NegotiatedWires();

    interface Ask {
        int get();
    }

    /** The answer, or which exception came instead. */
    static int answer(Ask ask) {
        try {
            return ask.get();
        } catch (NoSuchElementException e) {
            return NO_SUCH;
        } catch (IllegalArgumentException e) {
            return WRONG;
        }
    }

    static void due(String what, int want, Ask ask) {
        int got = answer(ask);
        asked++;
        if (got != want) {
            wrong++;
            System.out.println(what + " answered " + spell(got) + ", due is " + spell(want)
                    + (sentence.isEmpty() ? "" : "\n    by: " + sentence));
        }
    }

    /** The words of the document that the next answers are about; each must be asked about. */
    static void says(String words) {
        endSentence();
        sentence = words;
        askedAhead = asked;
        SAID.add(words);
    }

    static void endSentence() {
        if (!sentence.isEmpty() && asked == askedAhead) {
            wrong++;
            System.out.println("nothing is asked about: " + sentence);
        }
        sentence = "";
    }

    static List<String> said() {
        return SAID;
    }

    static void same(String what, String want, String got) {
        asked++;
        if (!want.equals(got)) {
            wrong++;
            System.out.println(what + " is\n" + got + ", due is\n" + want + "\n    by: " + sentence);
        }
    }

    private static String spell(int value) {
        return value == NO_SUCH ? "NoSuchElementException"
                : value == WRONG ? "IllegalArgumentException" : String.valueOf(value);
    }

    static void end(String name) {
        System.out.println(name + ": " + asked + " answers, " + wrong + " not as due");
        if (wrong > 0) {
            System.exit(1);
        }
    }

    static Kit of(String board) {
        Kit k = new Kit();
        int got = answer(() -> k.board(board));
        if (got < 0) {
            wrong++;
            System.out.println("a board of a test has a fault: " + board);
        }
        return k;
    }

    /** All that can be seen of a small board without changing it, but for counts of refused calls. */
    String print() {
        StringBuilder s = new StringBuilder(state());
        s.append(" / ").append(wires.told(11)).append(' ').append(wires.told(10)).append(' ').append(wires.count(0));
        s.append(' ').append(wires.count(2)).append(' ').append(wires.would(7, 2, 3, 4, 1, 5, 6, 1));
        s.append(' ').append(wires.would(9, 0, 9, 40, 3, 1, 2, 0)).append(' ').append(wires.fits(0));
        return s.append(' ').append(wires.fits(1)).append(' ').append(wires.look(0)).toString();
    }

    /** All that a work could change. */
    String state() {
        StringBuilder s = new StringBuilder();
        for (int what = 0; what <= 12; what++) {
            s.append(what == 10 || what == 11 ? 0 : wires.told(what)).append(' ');
        }
        for (int net = 0; net < wires.told(2); net++) {
            s.append(wires.net(net, 0)).append('c');
        }
        for (int y = 0; y < wires.told(1); y++) {
            for (int x = 0; x < wires.told(0); x++) {
                printPlace(s, x, y);
            }
        }
        return s.toString();
    }

    private void printPlace(StringBuilder s, int x, int y) {
        s.append(' ');
        for (int what = 0; what <= 3; what++) {
            s.append(wires.place(x, y, what)).append(',');
        }
        for (int net = 0; net < wires.told(2); net++) {
            s.append(wires.parent(net, x, y)).append(';');
        }
    }

    void feed(String text) {
        for (int i = 0; i < text.length(); i += 20) {
            int[] five = new int[5];
            for (int k = 0; k < 20; k++) {
                int sign = i + k < text.length() ? text.charAt(i + k) : ' ';
                five[k / 4] |= sign << (24 - 8 * (k % 4));
            }
            wires.feed(five[0], five[1], five[2], five[3], five[4]);
        }
    }

    int board(String text) {
        feed(text);
        return wires.board(text.length());
    }

    int law(String text) {
        feed(text);
        return wires.law(text.length());
    }

    int work(String text) {
        feed(text);
        return wires.work(text.length());
    }

    int book(String text) {
        feed(text);
        return wires.book(text.length());
    }
}
