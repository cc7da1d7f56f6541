import java.util.NoSuchElementException;

/** One object under test, told texts as texts; what is not as due is printed and counted. */
final class Kit {
    static final int NO_SUCH = 1_000_001;
    static final int WRONG = 1_000_002;
    private static int wrong;
    private static int asked;

    final NegotiatedWires wires = new NegotiatedWires();

    interface Ask {
        int get();
    }

    /** The answer, or which exception came instead. */
    static int answer(Ask ask) {
        try {
            return ask.get();
        } catch (NoSuchElementException e) {
            return NO_SUCH;
        } catch (IllegalArgumentException e) {
            return WRONG;
        }
    }

    static void due(String what, int want, Ask ask) {
        int got = answer(ask);
        asked++;
        if (got != want) {
            wrong++;
            System.out.println(what + " answered " + spell(got) + ", due is " + spell(want));
        }
    }

    private static String spell(int value) {
        return value == NO_SUCH ? "NoSuchElementException"
                : value == WRONG ? "IllegalArgumentException" : String.valueOf(value);
    }

    static void end(String name) {
        System.out.println(name + ": " + asked + " answers, " + wrong + " not as due");
        if (wrong > 0) {
            System.exit(1);
        }
    }

    void feed(String text) {
        for (int i = 0; i < text.length(); i += 20) {
            int[] five = new int[5];
            for (int k = 0; k < 20; k++) {
                int sign = i + k < text.length() ? text.charAt(i + k) : ' ';
                five[k / 4] |= sign << (24 - 8 * (k % 4));
            }
            wires.feed(five[0], five[1], five[2], five[3], five[4]);
        }
    }

    int board(String text) {
        feed(text);
        return wires.board(text.length());
    }

    int law(String text) {
        feed(text);
        return wires.law(text.length());
    }

    int work(String text) {
        feed(text);
        return wires.work(text.length());
    }

    int book(String text) {
        feed(text);
        return wires.book(text.length());
    }
}
