import java.util.Arrays;
import java.util.NoSuchElementException;

/** Wires by negotiation: nets share places at first, and pay for it until each has its own way. */
public final class NegotiatedWires {
    public static final int NONE = -1;

    // Places are numbered 8 times y and x, whatever the board's size is.
    private static final int SIDE = 8;
    private static final int PLACES = SIDE * SIDE;
    private static final int NETS_MOST = 6;
    private static final int PINS_MOST = 4;
    private static final int WAYS = 4;
    private static final int ROOT = 4;
    // Above every sum of costs: 64 places of 999 at most each.
    private static final int FAR = 1000000;

    private static final int TAPE_MOST = 600;
    private static final int LAW_MOST = 150;
    private static final int WORK_MOST = 150;
    private static final int BOOK_MOST = 60;
    private static final int CLAUSES_MOST = 60;
    private static final int LINES_MOST = 8;
    private static final int OPEN_MOST = 6;
    private static final int WORKS_MOST = 16;
    private static final int IMAGES_MOST = 3;
    private static final int STEPS_MOST = 200;
    private static final int ROUNDS_MOST = 400;
    private static final int ROUNDS_AHEAD = 40;
    private static final int HISTORY_MOST = 9999;
    private static final int COST_MOST = 999;
    private static final int NO_TIGHT = -1000;

    private static final int CANNOT_STAND = 1;
    private static final int NO_SUCH_NUMBER = 2;
    private static final int TOO_MANY = 3;

    private static final int STEP_ROUND = 0;
    private static final int STEP_LAY = 1;
    private static final int STEP_RIP = 2;
    private static final int STEP_CRIT = 3;
    private static final int STEP_BLOCK = 4;
    private static final int STEP_EASE = 5;
    private static final int STEP_AGAIN = 6;
    private static final int STEP_CLOSE = 7;

    // Codes of a law: below FIRST_NAME a number, below FIRST_DEED a name, else a deed on two values.
    private static final int FIRST_NAME = 1000;
    private static final int PAST = 1000;
    private static final int OVER = 1001;
    private static final int CRIT = 1002;
    private static final int ROUND = 1003;
    private static final int NAMES = 8;
    private static final int FIRST_DEED = 2000;
    private static final int ADD = 2000;
    private static final int SUBTRACT = 2001;
    private static final int MULTIPLY = 2002;
    private static final int DIVIDE = 2003;
    private static final int REMAIN = 2004;
    private static final int LEAST = 2005;
    private static final int MOST = 2006;

    // 1 + (past + over * (round + 3)) * (10 - crit) / 10, the values ahead of their deed.
    private static final int[] LAW_WITHOUT = {
        1, PAST, OVER, ROUND, 3, ADD, MULTIPLY, ADD, 10, CRIT, SUBTRACT, MULTIPLY, 10, DIVIDE, ADD
    };

    private final Text text = new Text();
    private final Board board = new Board();
    private final Board spareBoard = new Board();
    private final Law law = new Law();
    private final Law spareLaw = new Law();
    private final Book book = new Book();
    private final Book spareBook = new Book();
    private final Work program = new Work();
    private final Survey survey = new Survey(board);
    private final Router router = new Router(board, law, survey);
    private final Joiner joiner = new Joiner(board);
    private final Fitter fitter = new Fitter(board, book, router);
    private final Shelf shelf = new Shelf();
    private final State state = new State();
    private final State scratch = new State();
    private int refusedSteps;
    private int noSuchCalls;
    private int wrongCalls;
    private int seedNow;

    public NegotiatedWires() {
        startAnew();
    }

    public int feed(int a, int b, int c, int d, int e) {
        if (text.fed + 20 > TAPE_MOST) {
            return NONE;
        }
        text.append(a);
        text.append(b);
        text.append(c);
        text.append(d);
        text.append(e);
        return text.fed;
    }

    public int board(int n) throws IllegalArgumentException {
        needLength(n, TAPE_MOST);
        text.begin(n);
        spareBoard.read(text);
        if (text.failed()) {
            return text.kind - 10;
        }
        board.copyFrom(spareBoard);
        startAnew();
        return board.nets;
    }

    public int law(int n) throws IllegalArgumentException {
        needLength(n, LAW_MOST);
        text.begin(n);
        spareLaw.read(text);
        if (text.failed()) {
            return text.kind - 10;
        }
        law.copyFrom(spareLaw);
        return 1;
    }

    public int work(int n) throws IllegalArgumentException {
        needLength(n, WORK_MOST);
        if (shelf.works >= WORKS_MOST) {
            text.begin(0);
            return -20;
        }
        text.begin(n);
        program.read(text, board);
        if (text.failed()) {
            return text.kind - 10;
        }
        shelf.keepWork(state);
        int done = program.run(router, state);
        refusedSteps = program.refused;
        return done;
    }

    public int book(int n) throws IllegalArgumentException {
        needLength(n, BOOK_MOST);
        text.begin(n);
        spareBook.read(text, board);
        if (text.failed()) {
            return text.kind - 10;
        }
        book.copyFrom(spareBook);
        return book.lines;
    }

    public int fault() {
        return text.fault;
    }

    public int undo() {
        if (shelf.works == 0) {
            return -1;
        }
        shelf.takeWork(state);
        refusedSteps = 0;
        return shelf.works;
    }

    public int told(int what) throws IllegalArgumentException {
        needWhat(what, 12);
        switch (what) {
            case 0: return board.columns;
            case 1: return board.rows;
            case 2: return board.nets;
            case 3: return state.round;
            case 4: return survey.joinedBits(state);
            case 5: return survey.overPlaces(state);
            case 6: return survey.allIsDone(state) ? 1 : 0;
            case 7: return survey.lateBits(state);
            case 8: return survey.usesTogether(state);
            case 9: return board.gain;
            case 10: return book.lines;
            case 11: return refusedSteps;
            default: return survey.wallPlaces(state);
        }
    }

    public int net(int net, int what) throws NoSuchElementException, IllegalArgumentException {
        needNet(net);
        needWhat(what, 10);
        switch (what) {
            case 0: return state.crits[net];
            case 1: return board.limits[net];
            case 2: return board.pinCounts[net];
            case 3: return state.sizeOf(net);
            case 4: return survey.overPlacesOf(state, net);
            case 5: return survey.delayOf(state, net);
            case 6: return board.limits[net] - survey.delayOf(state, net);
            case 7: return survey.leavesOf(state, net);
            case 8: return survey.forksOf(state, net);
            case 9: return survey.deepestOf(state, net);
            default: return survey.isJoined(state, net) ? 1 : 0;
        }
    }

    public int place(int x, int y, int what) throws NoSuchElementException, IllegalArgumentException {
        needPlace(x, y);
        needWhat(what, 6);
        int p = y * SIDE + x;
        switch (what) {
            case 0: return board.widths[p];
            case 1: return state.uses[p];
            case 2: return state.histories[p];
            case 3: return state.walls[p];
            case 4: return survey.netBits(state, p);
            case 5: return board.pinBits[p];
            default: return survey.overAt(state, p);
        }
    }

    public int cost(int net, int x, int y) throws NoSuchElementException {
        needNet(net);
        needPlace(x, y);
        return router.priceOf(state, net, y * SIDE + x);
    }

    public int would(int past, int over, int crit, int round, int wide, int col, int row, int pins)
            throws IllegalArgumentException {
        needRange(past, 0, HISTORY_MOST);
        needRange(over, 0, 6);
        needRange(crit, 0, 9);
        needRange(round, 0, ROUNDS_MOST);
        needRange(wide, 1, 3);
        needRange(col, 0, 7);
        needRange(row, 0, 7);
        needRange(pins, 0, 6);
        int[] named = law.named;
        named[0] = past;
        named[1] = over;
        named[2] = crit;
        named[3] = round;
        named[4] = wide;
        named[5] = col;
        named[6] = row;
        named[7] = pins;
        return law.priceNow();
    }

    public int parent(int net, int x, int y) throws NoSuchElementException {
        needNet(net);
        needPlace(x, y);
        return state.ways[net * PLACES + y * SIDE + x];
    }

    public int dist(int net, int x, int y) throws NoSuchElementException {
        needNet(net);
        needPlace(x, y);
        return router.distanceTo(state, net, y * SIDE + x);
    }

    public int spared(int net, int x, int y) throws NoSuchElementException {
        needNet(net);
        needPlace(x, y);
        return router.sparedOf(state, net, y * SIDE + x);
    }

    public int settled() {
        scratch.copyFrom(state);
        for (int rounds = 0; rounds <= ROUNDS_AHEAD; rounds++) {
            if (survey.allIsDone(scratch)) {
                return rounds;
            }
            router.goRound(scratch);
        }
        return NONE;
    }

    public int jam(int y) throws NoSuchElementException {
        needRow(y);
        goAhead(ROUNDS_AHEAD);
        int bits = 0;
        for (int x = 0; x < board.columns; x++) {
            if (survey.overAt(scratch, y * SIDE + x) > 0) {
                bits |= 1 << x;
            }
        }
        return bits;
    }

    public int ahead(int n, int what) throws IllegalArgumentException {
        needRange(n, 0, ROUNDS_AHEAD);
        needWhat(what, 3);
        goAhead(n);
        switch (what) {
            case 0: return survey.overPlaces(scratch);
            case 1: return survey.joinedBits(scratch);
            case 2: return survey.usesTogether(scratch);
            default: return survey.historiesTogether(scratch);
        }
    }

    public int fewest(int net) throws NoSuchElementException {
        needNet(net);
        return joiner.fewestPlaces(state, net);
    }

    public int tree(int net, int y) throws NoSuchElementException {
        needNet(net);
        needRow(y);
        int bits = 0;
        for (int x = 0; x < board.columns; x++) {
            if (state.has(net, y * SIDE + x)) {
                bits |= 1 << x;
            }
        }
        return bits;
    }

    public int meet(int net, int other) throws NoSuchElementException {
        needNet(net);
        needNet(other);
        int common = 0;
        for (int p = 0; p < PLACES; p++) {
            if (state.has(net, p) && state.has(other, p)) {
                common++;
            }
        }
        return common;
    }

    public int dear(int net) throws NoSuchElementException {
        needNet(net);
        int sum = 0;
        for (int p = 0; p < PLACES; p++) {
            int way = state.ways[net * PLACES + p];
            if (way != NONE && way != ROOT) {
                sum += router.priceOf(state, net, p);
            }
        }
        return sum;
    }

    public int shed(int net) throws NoSuchElementException {
        needNet(net);
        return board.pinCounts[net] == 0 ? 0 : router.markKept(state, net);
    }

    public int fits(int what) throws IllegalArgumentException {
        needWhat(what, 1);
        int found = fitter.findPairs(state, scratch);
        if (what == 0) {
            return found;
        }
        return found == 0 ? NONE : fitter.pairs[0];
    }

    public int look(int what) throws IllegalArgumentException {
        needWhat(what, 1);
        int found = fitter.findPairs(state, scratch);
        int best = NONE;
        int least = NONE;
        for (int p = 0; p < PLACES; p++) {
            if (board.isInside(p) && !book.hasLineAt(p)) {
                int worst = fitter.biggestGroup(found, p);
                if (best == NONE || worst < least) {
                    best = p;
                    least = worst;
                }
            }
        }
        return what == 1 || best == NONE ? least : nameOfPlace(best);
    }

    public int crowd(int what) throws IllegalArgumentException {
        needWhat(what, 1);
        int most = 0;
        for (int p = 1; p < PLACES; p++) {
            if (state.uses[p] > state.uses[most]) {
                most = p;
            }
        }
        return what == 0 ? nameOfPlace(most) : state.uses[most];
    }

    public int tight(int what) throws IllegalArgumentException {
        needWhat(what, 1);
        int tightest = NO_TIGHT;
        int least = NO_TIGHT;
        for (int net = 0; net < board.nets; net++) {
            if (board.pinCounts[net] > 0 && survey.isJoined(state, net)) {
                int slack = board.limits[net] - survey.delayOf(state, net);
                if (tightest == NO_TIGHT || slack < least) {
                    tightest = net;
                    least = slack;
                }
            }
        }
        return what == 0 ? tightest : least;
    }

    public int season(int seed, int many, int q, int what) throws IllegalArgumentException {
        needRange(many, 1, 40);
        needRange(q, 0, 16);
        needWhat(what, 3);
        goSeason(seed, many, q);
        switch (what) {
            case 0: return survey.overPlaces(scratch);
            case 1: return survey.joinedBits(scratch);
            case 2: return scratch.round;
            default: return survey.usesTogether(scratch);
        }
    }

    public int span(int seed, int seeds, int many, int q, int what, int net)
            throws NoSuchElementException, IllegalArgumentException {
        needNet(net);
        needRange(seeds, 1, 5);
        needRange(many, 1, 40);
        needRange(q, 0, 16);
        needWhat(what, 2);
        int fewestOver = PLACES;
        int mostOver = 0;
        int joined = 0;
        for (int i = 0; i < seeds; i++) {
            goSeason(seed + i, many, q);
            int over = survey.overPlaces(scratch);
            fewestOver = over < fewestOver ? over : fewestOver;
            mostOver = over > mostOver ? over : mostOver;
            joined += survey.isJoined(scratch, net) ? 1 : 0;
        }
        if (what == 2) {
            return joined;
        }
        return what == 0 ? fewestOver : mostOver;
    }

    public int image() {
        if (shelf.images >= IMAGES_MOST) {
            return -1;
        }
        shelf.keepImage(state);
        return shelf.images;
    }

    public int restore() {
        if (shelf.images == 0) {
            return -1;
        }
        shelf.takeImage(state);
        refusedSteps = 0;
        return shelf.images;
    }

    public int status(int what) {
        if (what == 0) {
            return noSuchCalls;
        }
        return what == 1 ? wrongCalls : NONE;
    }

    public int count(int what) {
        switch (what) {
            case 0: return shelf.images;
            case 1: return text.fed;
            case 2: return shelf.works;
            default: return NONE;
        }
    }

    private void startAnew() {
        state.start(board);
        law.forget();
        book.forget();
        shelf.forget();
        refusedSteps = 0;
    }

    private void needLength(int n, int most) {
        if (n < 0 || n > most || n > text.fed) {
            wrongCalls++;
            throw new IllegalArgumentException("no such length of a text");
        }
    }

    private void needRange(int value, int low, int high) {
        if (value < low || value > high) {
            wrongCalls++;
            throw new IllegalArgumentException("a number out of its range");
        }
    }

    private void needWhat(int what, int most) {
        if (what < 0 || what > most) {
            wrongCalls++;
            throw new IllegalArgumentException("no such what");
        }
    }

    private void needNet(int net) {
        if (net < 0 || net >= board.nets) {
            noSuchCalls++;
            throw new NoSuchElementException("no such net");
        }
    }

    private void needRow(int y) {
        if (y < 0 || y >= board.rows) {
            noSuchCalls++;
            throw new NoSuchElementException("no such row");
        }
    }

    private void needPlace(int x, int y) {
        if (x < 0 || x >= board.columns || y < 0 || y >= board.rows) {
            noSuchCalls++;
            throw new NoSuchElementException("no such place");
        }
    }

    private static int nameOfPlace(int p) {
        return 10 * (p / SIDE) + p % SIDE;
    }

    /** Once all is done, a round changes nothing but its own number, which nobody asks for here. */
    private void goAhead(int rounds) {
        scratch.copyFrom(state);
        for (int i = 0; i < rounds && !survey.allIsDone(scratch); i++) {
            router.goRound(scratch);
        }
    }

    private void goSeason(int seed, int many, int q) {
        scratch.copyFrom(state);
        seedNow = seed;
        for (int i = 0; i < many; i++) {
            if (board.nets > 0) {
                doDrawnDeed();
            }
            if (drawn(16) < q) {
                router.easeAll(scratch, 1);
            }
        }
    }

    private void doDrawnDeed() {
        int net = drawn(board.nets);
        switch (drawn(8)) {
            case 0:
                router.ripUp(scratch, net);
                break;
            case 1:
            case 2:
                router.layAnew(scratch, net);
                break;
            case 3:
                scratch.crits[net] = drawn(10);
                break;
            default:
                router.goRound(scratch);
                break;
        }
    }

    private int drawn(int by) {
        seedNow = seedNow * 1103515245 + 12345;
        return by <= 0 ? 0 : ((seedNow >>> 16) & 0x7fff) % by;
    }

    /** The tape, and its first bytes read as a text; of the faults of a text the first is kept. */
    private static final class Text {
        final int[] bytes = new int[TAPE_MOST];
        int fed;
        int length;
        int at;
        int from;
        int kind;
        int fault = NONE;

        void append(int four) {
            for (int shift = 24; shift >= 0; shift -= 8) {
                if (fed < bytes.length) {
                    bytes[fed] = (four >>> shift) & 255;
                    fed++;
                }
            }
        }

        void begin(int n) {
            length = n;
            at = 0;
            from = 0;
            fed = 0;
            kind = 0;
            fault = NONE;
        }

        boolean failed() {
            return kind != 0;
        }

        void fail(int what, int where) {
            if (kind == 0) {
                kind = what;
                fault = where;
            }
        }

        void skipBlanks() {
            while (at < length && bytes[at] == ' ') {
                at++;
            }
            from = at;
        }

        boolean ended() {
            skipBlanks();
            return at >= length;
        }

        boolean digitIsNext() {
            skipBlanks();
            return at < length && isDigit(bytes[at]);
        }

        boolean takes(char sign) {
            skipBlanks();
            if (at >= length || bytes[at] != sign) {
                return false;
            }
            at++;
            return true;
        }

        void need(char sign) {
            skipBlanks();
            if (at < length && bytes[at] == sign) {
                at++;
            } else {
                fail(CANNOT_STAND, at);
            }
        }

        int number(int low, int high) {
            skipBlanks();
            int value = 0;
            while (at < length && isDigit(bytes[at])) {
                // Beyond every bound of the document it need not be known how large it is.
                value = value > 9999 ? value : value * 10 + bytes[at] - '0';
                at++;
            }
            if (at == from) {
                fail(CANNOT_STAND, from);
            } else if (value < low || value > high) {
                fail(NO_SUCH_NUMBER, from);
            }
            return value;
        }

        void readWord() {
            skipBlanks();
            while (at < length && bytes[at] >= 'a' && bytes[at] <= 'z') {
                at++;
            }
        }

        boolean wordIs(String name) {
            if (name.length() != at - from) {
                return false;
            }
            for (int i = 0; i < name.length(); i++) {
                if (bytes[from + i] != name.charAt(i)) {
                    return false;
                }
            }
            return true;
        }

        private static boolean isDigit(int sign) {
            return sign >= '0' && sign <= '9';
        }
    }

    /** What a board's text tells, without what is left out of it. */
    private static final class Board {
        int columns = 4;
        int rows = 4;
        int nets;
        int gain = 1;
        final int[] crits = new int[NETS_MOST];
        final int[] limits = new int[NETS_MOST];
        final int[] pinCounts = new int[NETS_MOST];
        final int[] pins = new int[NETS_MOST * PINS_MOST];
        final int[] pinBits = new int[PLACES];
        final int[] widths = new int[PLACES];
        final int[] walls = new int[PLACES];
        final int[] beside = new int[PLACES * WAYS];

        Board() {
            clear();
            finish();
        }

        void copyFrom(Board other) {
            columns = other.columns;
            rows = other.rows;
            nets = other.nets;
            gain = other.gain;
            System.arraycopy(other.crits, 0, crits, 0, NETS_MOST);
            System.arraycopy(other.limits, 0, limits, 0, NETS_MOST);
            System.arraycopy(other.pinCounts, 0, pinCounts, 0, NETS_MOST);
            System.arraycopy(other.pins, 0, pins, 0, NETS_MOST * PINS_MOST);
            System.arraycopy(other.pinBits, 0, pinBits, 0, PLACES);
            System.arraycopy(other.widths, 0, widths, 0, PLACES);
            System.arraycopy(other.walls, 0, walls, 0, PLACES);
            System.arraycopy(other.beside, 0, beside, 0, PLACES * WAYS);
        }

        boolean isInside(int p) {
            return p % SIDE < columns && p / SIDE < rows;
        }

        boolean hasPin(int net, int p) {
            return (pinBits[p] >> net & 1) != 0;
        }

        int rootOf(int net) {
            return pins[net * PINS_MOST];
        }

        void read(Text text) {
            clear();
            for (int clause = 0; clause <= TAPE_MOST; clause++) {
                if (text.failed() || text.ended()) {
                    break;
                }
                readClause(text, clause);
            }
            if (!text.failed()) {
                finish();
            }
        }

        private void clear() {
            columns = 4;
            rows = 4;
            nets = 0;
            gain = 1;
            Arrays.fill(pinCounts, 0);
            Arrays.fill(pinBits, 0);
            Arrays.fill(widths, 1);
            Arrays.fill(walls, 0);
        }

        private void readClause(Text text, int clause) {
            text.readWord();
            boolean size = text.wordIs("size");
            boolean wall = text.wordIs("wall");
            boolean wide = text.wordIs("wide");
            boolean net = text.wordIs("net");
            boolean pin = text.wordIs("pin");
            if (!size && !wall && !wide && !net && !pin && !text.wordIs("gain")) {
                text.fail(CANNOT_STAND, text.from);
            } else if (clause >= CLAUSES_MOST || net && nets >= NETS_MOST) {
                text.fail(TOO_MANY, text.from);
            } else if (size) {
                columns = text.number(2, SIDE);
                rows = text.number(2, SIDE);
            } else if (wall) {
                readWall(text);
            } else if (wide) {
                readWide(text);
            } else if (net) {
                crits[nets] = text.number(0, 9);
                limits[nets] = text.number(0, 60);
                nets++;
            } else if (pin) {
                readPin(text);
            } else {
                gain = text.number(0, 9);
            }
            text.need(';');
        }

        private int readPlace(Text text) {
            int x = text.number(0, SIDE - 1);
            int y = text.number(0, SIDE - 1);
            return y * SIDE + x;
        }

        private void readWall(Text text) {
            int p = readPlace(text);
            if (!text.failed()) {
                walls[p] = 1;
            }
        }

        private void readWide(Text text) {
            int p = readPlace(text);
            int wide = text.number(1, 3);
            if (!text.failed()) {
                widths[p] = wide;
            }
        }

        private void readPin(Text text) {
            int net = text.number(0, nets - 1);
            if (text.failed()) {
                return;
            }
            if (pinCounts[net] >= PINS_MOST) {
                text.fail(TOO_MANY, text.from);
                return;
            }
            int p = readPlace(text);
            if (!text.failed()) {
                pins[net * PINS_MOST + pinCounts[net]] = p;
                pinCounts[net]++;
            }
        }

        /** Only now the size is known for all, so only now places beyond it can be left out. */
        private void finish() {
            for (int net = 0; net < nets; net++) {
                keepPins(net);
            }
            for (int p = 0; p < PLACES; p++) {
                if (!isInside(p) || pinBits[p] != 0) {
                    walls[p] = 0;
                }
                findBeside(p);
            }
        }

        private void keepPins(int net) {
            int toldPins = pinCounts[net];
            int kept = 0;
            for (int i = 0; i < toldPins; i++) {
                int p = pins[net * PINS_MOST + i];
                if (isInside(p) && !hasPin(net, p)) {
                    pinBits[p] |= 1 << net;
                    pins[net * PINS_MOST + kept] = p;
                    kept++;
                }
            }
            pinCounts[net] = kept;
        }

        private void findBeside(int p) {
            int x = p % SIDE;
            int y = p / SIDE;
            beside[p * WAYS] = y > 0 ? p - SIDE : NONE;
            beside[p * WAYS + 1] = x + 1 < columns ? p + 1 : NONE;
            beside[p * WAYS + 2] = y + 1 < rows ? p + SIDE : NONE;
            beside[p * WAYS + 3] = x > 0 ? p - 1 : NONE;
        }
    }

    /** What a place costs: a text turned into codes, values ahead of the deeds on them. */
    private static final class Law {
        final int[] named = new int[NAMES];
        private final int[] codes = new int[LAW_MOST];
        // At most three values wait in each of seven levels.
        private final int[] waiting = new int[32];
        private int length;

        Law() {
            forget();
        }

        void forget() {
            System.arraycopy(LAW_WITHOUT, 0, codes, 0, LAW_WITHOUT.length);
            length = LAW_WITHOUT.length;
        }

        void copyFrom(Law other) {
            System.arraycopy(other.codes, 0, codes, 0, other.length);
            length = other.length;
        }

        void read(Text text) {
            length = 0;
            readSum(text, 0);
            if (!text.failed() && !text.ended()) {
                text.fail(CANNOT_STAND, text.from);
            }
        }

        private void emit(int code) {
            if (length < codes.length) {
                codes[length] = code;
                length++;
            }
        }

        private void readSum(Text text, int open) {
            readProduct(text, open);
            for (int i = 0; i < LAW_MOST && !text.failed(); i++) {
                int deed = text.takes('+') ? ADD : text.takes('-') ? SUBTRACT : NONE;
                if (deed == NONE) {
                    return;
                }
                readProduct(text, open);
                emit(deed);
            }
        }

        private void readProduct(Text text, int open) {
            readUnit(text, open);
            for (int i = 0; i < LAW_MOST && !text.failed(); i++) {
                int deed = text.takes('*') ? MULTIPLY
                        : text.takes('/') ? DIVIDE
                        : text.takes('%') ? REMAIN : NONE;
                if (deed == NONE) {
                    return;
                }
                readUnit(text, open);
                emit(deed);
            }
        }

        private void readUnit(Text text, int open) {
            if (text.failed()) {
                return;
            }
            if (text.digitIsNext()) {
                emit(text.number(0, 999));
            } else if (text.takes('(')) {
                readInside(text, open);
                text.need(')');
            } else {
                text.readWord();
                if (text.wordIs("least")) {
                    readPair(text, open, LEAST);
                } else if (text.wordIs("most")) {
                    readPair(text, open, MOST);
                } else {
                    readName(text);
                }
            }
        }

        /** What opened it was the latest token, so a level too many is told of there. */
        private void readInside(Text text, int open) {
            if (open >= OPEN_MOST) {
                text.fail(TOO_MANY, text.from);
                return;
            }
            readSum(text, open + 1);
        }

        private void readPair(Text text, int open, int deed) {
            if (open >= OPEN_MOST) {
                text.fail(TOO_MANY, text.from);
                return;
            }
            text.need('[');
            readInside(text, open);
            text.need(',');
            readInside(text, open);
            text.need(']');
            emit(deed);
        }

        private void readName(Text text) {
            int name = text.wordIs("past") ? 0
                    : text.wordIs("over") ? 1
                    : text.wordIs("crit") ? 2
                    : text.wordIs("round") ? 3
                    : text.wordIs("wide") ? 4
                    : text.wordIs("col") ? 5
                    : text.wordIs("row") ? 6
                    : text.wordIs("pins") ? 7 : NONE;
            if (name == NONE) {
                text.fail(CANNOT_STAND, text.from);
            } else {
                emit(FIRST_NAME + name);
            }
        }

        int priceNow() {
            int top = 0;
            for (int i = 0; i < length; i++) {
                int code = codes[i];
                if (code < FIRST_DEED) {
                    if (top < waiting.length) {
                        waiting[top] = code < FIRST_NAME ? code : named[code - FIRST_NAME];
                        top++;
                    }
                    continue;
                }
                if (top < 2) {
                    continue;
                }
                top--;
                int left = waiting[top - 1];
                int right = waiting[top];
                int value;
                switch (code) {
                    case ADD: value = left + right; break;
                    case SUBTRACT: value = left - right; break;
                    case MULTIPLY: value = left * right; break;
                    case DIVIDE: value = right == 0 ? 0 : left / right; break;
                    case REMAIN: value = right == 0 ? 0 : left % right; break;
                    case LEAST: value = left < right ? left : right; break;
                    default: value = left > right ? left : right; break;
                }
                waiting[top - 1] = value;
            }
            return waiting[0] < 1 ? 1 : waiting[0] > COST_MOST ? COST_MOST : waiting[0];
        }
    }

    /** How many nets use the places of some lines. */
    private static final class Book {
        int lines;
        private final int[] places = new int[LINES_MOST];
        private final int[] wanted = new int[LINES_MOST];

        void forget() {
            lines = 0;
        }

        void copyFrom(Book other) {
            lines = other.lines;
            System.arraycopy(other.places, 0, places, 0, LINES_MOST);
            System.arraycopy(other.wanted, 0, wanted, 0, LINES_MOST);
        }

        boolean hasLineAt(int p) {
            for (int i = 0; i < lines; i++) {
                if (places[i] == p) {
                    return true;
                }
            }
            return false;
        }

        boolean isRightBy(int[] uses) {
            for (int i = 0; i < lines; i++) {
                if (uses[places[i]] != wanted[i]) {
                    return false;
                }
            }
            return true;
        }

        void read(Text text, Board board) {
            lines = 0;
            for (int i = 0; i <= BOOK_MOST; i++) {
                if (text.failed() || text.ended()) {
                    return;
                }
                readLine(text, board);
            }
        }

        private void readLine(Text text, Board board) {
            int x = text.number(0, board.columns - 1);
            if (lines >= LINES_MOST) {
                text.fail(TOO_MANY, text.from);
            }
            int y = text.number(0, board.rows - 1);
            int p = y * SIDE + x;
            if (hasLineAt(p)) {
                text.fail(NO_SUCH_NUMBER, text.from);
            }
            int many = text.number(0, 6);
            text.need(';');
            if (!text.failed()) {
                places[lines] = p;
                wanted[lines] = many;
                lines++;
            }
        }
    }

    /** Work: its steps in a row; an again knows where it closes, and a close where it began. */
    private static final class Work {
        int refused;
        private int length;
        private int open;
        private final int[] kinds = new int[WORK_MOST];
        private final int[] firsts = new int[WORK_MOST];
        private final int[] seconds = new int[WORK_MOST];
        private final int[] opened = new int[OPEN_MOST];
        private final int[] left = new int[OPEN_MOST];

        void read(Text text, Board board) {
            length = 0;
            open = 0;
            for (int i = 0; i <= WORK_MOST; i++) {
                if (text.failed() || open == 0 && text.ended()) {
                    return;
                }
                if (open > 0 && text.takes(']')) {
                    closeAgain();
                    text.need(';');
                } else {
                    readStep(text, board);
                }
            }
        }

        private void readStep(Text text, Board board) {
            text.readWord();
            if (text.wordIs("again")) {
                openAgain(text);
                return;
            }
            if (text.wordIs("round")) {
                emit(STEP_ROUND, 0, 0);
            } else if (text.wordIs("lay")) {
                emit(STEP_LAY, text.number(0, board.nets - 1), 0);
            } else if (text.wordIs("rip")) {
                emit(STEP_RIP, text.number(0, board.nets - 1), 0);
            } else if (text.wordIs("crit")) {
                int net = text.number(0, board.nets - 1);
                emit(STEP_CRIT, net, text.number(0, 9));
            } else if (text.wordIs("block")) {
                int x = text.number(0, board.columns - 1);
                emit(STEP_BLOCK, x, text.number(0, board.rows - 1));
            } else if (text.wordIs("ease")) {
                emit(STEP_EASE, text.number(1, 99), 0);
            } else {
                text.fail(CANNOT_STAND, text.from);
            }
            text.need(';');
        }

        private void openAgain(Text text) {
            if (open >= OPEN_MOST) {
                text.fail(TOO_MANY, text.from);
                return;
            }
            opened[open] = length;
            open++;
            emit(STEP_AGAIN, text.number(0, 40), 0);
            text.need('[');
        }

        private void closeAgain() {
            open--;
            seconds[opened[open]] = length;
            emit(STEP_CLOSE, opened[open], 0);
        }

        private void emit(int kind, int first, int second) {
            if (length < kinds.length) {
                kinds[length] = kind;
                firsts[length] = first;
                seconds[length] = second;
                length++;
            }
        }

        /** Answers how many steps were done; each begun again comes to its close 40 times at most. */
        int run(Router router, State state) {
            int begun = 0;
            int done = 0;
            int depth = 0;
            int at = 0;
            refused = 0;
            for (int i = 0; i < STEPS_MOST * 50 && at < length; i++) {
                int kind = kinds[at];
                if (kind == STEP_CLOSE && depth > 0) {
                    left[depth - 1]--;
                    boolean more = left[depth - 1] > 0;
                    depth -= more ? 0 : 1;
                    at = more ? firsts[at] + 1 : at + 1;
                    continue;
                }
                if (begun >= STEPS_MOST) {
                    break;
                }
                begun++;
                if (kind == STEP_AGAIN && firsts[at] == 0) {
                    at = seconds[at] + 1;
                    continue;
                }
                if (kind == STEP_AGAIN && depth < OPEN_MOST) {
                    left[depth] = firsts[at];
                    depth++;
                } else if (router.perform(state, kind, firsts[at], seconds[at])) {
                    done++;
                } else {
                    refused++;
                }
                at++;
            }
            return done;
        }
    }

    /** All that work changes: trees (by the way to each place's parent), histories, walls, crits, the round. */
    private static final class State {
        final int[] ways = new int[NETS_MOST * PLACES];
        final int[] uses = new int[PLACES];
        final int[] histories = new int[PLACES];
        final int[] walls = new int[PLACES];
        final int[] crits = new int[NETS_MOST];
        int round;

        void start(Board board) {
            Arrays.fill(ways, NONE);
            Arrays.fill(uses, 0);
            Arrays.fill(histories, 0);
            System.arraycopy(board.walls, 0, walls, 0, PLACES);
            System.arraycopy(board.crits, 0, crits, 0, NETS_MOST);
            round = 0;
        }

        void copyFrom(State other) {
            System.arraycopy(other.ways, 0, ways, 0, NETS_MOST * PLACES);
            System.arraycopy(other.uses, 0, uses, 0, PLACES);
            System.arraycopy(other.histories, 0, histories, 0, PLACES);
            System.arraycopy(other.walls, 0, walls, 0, PLACES);
            System.arraycopy(other.crits, 0, crits, 0, NETS_MOST);
            round = other.round;
        }

        boolean has(int net, int p) {
            return ways[net * PLACES + p] != NONE;
        }

        void put(int net, int p, int way) {
            if (!has(net, p)) {
                uses[p]++;
            }
            ways[net * PLACES + p] = way;
        }

        void drop(int net, int p) {
            if (has(net, p)) {
                uses[p]--;
            }
            ways[net * PLACES + p] = NONE;
        }

        int sizeOf(int net) {
            int size = 0;
            for (int p = 0; p < PLACES; p++) {
                size += has(net, p) ? 1 : 0;
            }
            return size;
        }

        /** Answers whether there was anything to drop. */
        boolean dropAll(int net) {
            boolean any = false;
            for (int p = 0; p < PLACES; p++) {
                any = any || has(net, p);
                drop(net, p);
            }
            return any;
        }
    }

    /** What can be read off a board and a state. */
    private static final class Survey {
        private final Board board;
        private final int[] children = new int[PLACES];

        Survey(Board board) {
            this.board = board;
        }

        int overAt(State state, int p) {
            int over = state.uses[p] - board.widths[p];
            return over > 0 ? over : 0;
        }

        int overPlaces(State state) {
            int places = 0;
            for (int p = 0; p < PLACES; p++) {
                places += overAt(state, p) > 0 ? 1 : 0;
            }
            return places;
        }

        int overPlacesOf(State state, int net) {
            int places = 0;
            for (int p = 0; p < PLACES; p++) {
                places += state.has(net, p) && overAt(state, p) > 0 ? 1 : 0;
            }
            return places;
        }

        boolean isJoined(State state, int net) {
            for (int i = 0; i < board.pinCounts[net]; i++) {
                if (!state.has(net, board.pins[net * PINS_MOST + i])) {
                    return false;
                }
            }
            return true;
        }

        int joinedBits(State state) {
            int bits = 0;
            for (int net = 0; net < board.nets; net++) {
                bits |= isJoined(state, net) ? 1 << net : 0;
            }
            return bits;
        }

        boolean allIsDone(State state) {
            return joinedBits(state) == (1 << board.nets) - 1 && overPlaces(state) == 0;
        }

        int lateBits(State state) {
            int bits = 0;
            for (int net = 0; net < board.nets; net++) {
                boolean late = !isJoined(state, net) || delayOf(state, net) > board.limits[net];
                bits |= late ? 1 << net : 0;
            }
            return bits;
        }

        int netBits(State state, int p) {
            int bits = 0;
            for (int net = 0; net < board.nets; net++) {
                bits |= state.has(net, p) ? 1 << net : 0;
            }
            return bits;
        }

        int usesTogether(State state) {
            int sum = 0;
            for (int p = 0; p < PLACES; p++) {
                sum += state.uses[p];
            }
            return sum;
        }

        int historiesTogether(State state) {
            int sum = 0;
            for (int p = 0; p < PLACES; p++) {
                sum += state.histories[p];
            }
            return sum;
        }

        int wallPlaces(State state) {
            int sum = 0;
            for (int p = 0; p < PLACES; p++) {
                sum += state.walls[p];
            }
            return sum;
        }

        /** Where a place's parent lies; NONE for the root and for what is not in the tree. */
        int above(State state, int net, int p) {
            int way = state.ways[net * PLACES + p];
            return way == NONE || way == ROOT ? NONE : board.beside[p * WAYS + way];
        }

        int stepsToRoot(State state, int net, int p) {
            int here = above(state, net, p);
            int steps = 0;
            while (steps < PLACES && here != NONE) {
                here = above(state, net, here);
                steps++;
            }
            return steps;
        }

        int delayOf(State state, int net) {
            int most = 0;
            for (int i = 0; i < board.pinCounts[net]; i++) {
                int steps = stepsToRoot(state, net, board.pins[net * PINS_MOST + i]);
                most = steps > most ? steps : most;
            }
            return most;
        }

        int deepestOf(State state, int net) {
            int most = 0;
            for (int p = 0; p < PLACES; p++) {
                int steps = stepsToRoot(state, net, p);
                most = steps > most ? steps : most;
            }
            return most;
        }

        int leavesOf(State state, int net) {
            countChildren(state, net);
            int leaves = 0;
            for (int p = 0; p < PLACES; p++) {
                leaves += state.has(net, p) && children[p] == 0 ? 1 : 0;
            }
            return leaves;
        }

        int forksOf(State state, int net) {
            countChildren(state, net);
            int forks = 0;
            for (int p = 0; p < PLACES; p++) {
                forks += children[p] >= 2 ? 1 : 0;
            }
            return forks;
        }

        private void countChildren(State state, int net) {
            Arrays.fill(children, 0);
            for (int p = 0; p < PLACES; p++) {
                int up = above(state, net, p);
                if (up != NONE) {
                    children[up]++;
                }
            }
        }
    }

    /** Numbers of which the least comes out first. */
    private static final class Heap {
        // Each place goes in once as a start and at most once by each neighbour.
        static final int ROOM = PLACES * (1 + WAYS);
        private final int[] keys = new int[ROOM];
        private int size;

        void clear() {
            size = 0;
        }

        boolean isEmpty() {
            return size == 0;
        }

        void push(int key) {
            if (size >= ROOM) {
                return;
            }
            int hole = size;
            size++;
            while (hole > 0 && keys[(hole - 1) / 2] > key) {
                keys[hole] = keys[(hole - 1) / 2];
                hole = (hole - 1) / 2;
            }
            keys[hole] = key;
        }

        int pop() {
            if (size == 0) {
                return NONE;
            }
            int least = keys[0];
            size--;
            int last = keys[size];
            int hole = 0;
            int child = 1;
            while (child < size) {
                if (child + 1 < size && keys[child + 1] < keys[child]) {
                    child++;
                }
                if (keys[child] >= last) {
                    break;
                }
                keys[hole] = keys[child];
                hole = child;
                child = 2 * hole + 1;
            }
            keys[hole] = last;
            return least;
        }
    }

    /** Lays, tears up and negotiates the trees of a state. */
    private static final class Router {
        private final Board board;
        private final Law law;
        private final Survey survey;
        private final Heap heap = new Heap();
        private final int[] far = new int[PLACES];
        // What a place costs the net that is being laid; 0 as long as nobody asked.
        private final int[] prices = new int[PLACES];
        private final int[] kept = new int[PLACES];

        Router(Board board, Law law, Survey survey) {
            this.board = board;
            this.law = law;
            this.survey = survey;
        }

        /** Answers false if the step can't be done; then nothing is changed. */
        boolean perform(State state, int kind, int first, int second) {
            switch (kind) {
                case STEP_ROUND:
                    if (state.round >= ROUNDS_MOST) {
                        return false;
                    }
                    goRound(state);
                    return true;
                case STEP_LAY:
                    return layAnew(state, first);
                case STEP_RIP:
                    return ripUp(state, first);
                case STEP_CRIT:
                    boolean other = state.crits[first] != second;
                    state.crits[first] = second;
                    return other;
                case STEP_BLOCK:
                    return turnWall(state, second * SIDE + first);
                case STEP_EASE:
                    easeAll(state, first);
                    return true;
                default:
                    return false;
            }
        }

        boolean layAnew(State state, int net) {
            if (board.pinCounts[net] == 0) {
                return false;
            }
            state.dropAll(net);
            state.put(net, board.rootOf(net), ROOT);
            grow(state, net);
            return true;
        }

        boolean ripUp(State state, int net) {
            return state.dropAll(net);
        }

        void easeAll(State state, int by) {
            for (int p = 0; p < PLACES; p++) {
                int rest = state.histories[p] - by;
                state.histories[p] = rest > 0 ? rest : 0;
            }
        }

        private boolean turnWall(State state, int p) {
            if (state.uses[p] > 0 || board.pinBits[p] != 0) {
                return false;
            }
            state.walls[p] = 1 - state.walls[p];
            return true;
        }

        void goRound(State state) {
            for (int net = 0; net < board.nets; net++) {
                boolean stays = board.pinCounts[net] == 0
                        || survey.isJoined(state, net) && survey.overPlacesOf(state, net) == 0;
                if (!stays) {
                    tearShared(state, net);
                    grow(state, net);
                }
            }
            for (int p = 0; p < PLACES; p++) {
                int history = state.histories[p] + survey.overAt(state, p) * board.gain;
                state.histories[p] = history < HISTORY_MOST ? history : HISTORY_MOST;
            }
            state.round++;
        }

        private void tearShared(State state, int net) {
            markKept(state, net);
            for (int p = 0; p < PLACES; p++) {
                if (kept[p] == 0) {
                    state.drop(net, p);
                }
            }
            state.put(net, board.rootOf(net), ROOT);
        }

        /** Marks what a net with pins would keep of its tree; answers how many places that are. */
        int markKept(State state, int net) {
            int many = 0;
            for (int p = 0; p < PLACES; p++) {
                boolean keeps = p == board.rootOf(net) || state.has(net, p) && isClear(state, net, p);
                kept[p] = keeps ? 1 : 0;
                many += kept[p];
            }
            return many;
        }

        /** Whether neither a place nor any on its way to the root is over, the root aside. */
        private boolean isClear(State state, int net, int p) {
            int root = board.rootOf(net);
            int here = p;
            for (int i = 0; i < PLACES && here != NONE && here != root; i++) {
                if (survey.overAt(state, here) > 0) {
                    return false;
                }
                here = survey.above(state, net, here);
            }
            return true;
        }

        private void grow(State state, int net) {
            // The net's own tree does not count in its costs, so they hold until it is laid.
            Arrays.fill(prices, 0);
            for (int i = 0; i < PINS_MOST && !survey.isJoined(state, net); i++) {
                spread(state, net, false);
                int pin = nearestPin(state, net);
                if (pin == NONE) {
                    return;
                }
                layBack(state, net, pin);
            }
        }

        /** Fills far; unless the whole is wanted, no farther than to the nearest pins that the tree lacks. */
        private void spread(State state, int net, boolean whole) {
            heap.clear();
            for (int p = 0; p < PLACES; p++) {
                far[p] = FAR;
                if (state.has(net, p)) {
                    far[p] = 0;
                    heap.push(p);
                }
            }
            int bound = FAR;
            for (int i = 0; i < Heap.ROOM && !heap.isEmpty(); i++) {
                int key = heap.pop();
                int here = key % PLACES;
                int reached = key / PLACES;
                if (reached > bound) {
                    return;
                }
                if (reached > far[here]) {
                    continue;
                }
                if (!whole && reached > 0 && board.hasPin(net, here)) {
                    bound = reached;
                }
                for (int way = 0; way < WAYS; way++) {
                    int next = board.beside[here * WAYS + way];
                    if (next == NONE || state.walls[next] != 0) {
                        continue;
                    }
                    if (prices[next] == 0) {
                        prices[next] = priceOf(state, net, next);
                    }
                    if (reached + prices[next] < far[next]) {
                        far[next] = reached + prices[next];
                        heap.push(far[next] * PLACES + next);
                    }
                }
            }
        }

        private int nearestPin(State state, int net) {
            int nearest = NONE;
            int least = FAR;
            for (int i = 0; i < board.pinCounts[net]; i++) {
                int pin = board.pins[net * PINS_MOST + i];
                if (!state.has(net, pin) && far[pin] < least) {
                    nearest = pin;
                    least = far[pin];
                }
            }
            return nearest;
        }

        private void layBack(State state, int net, int pin) {
            int here = pin;
            for (int i = 0; i < PLACES && here != NONE && !state.has(net, here); i++) {
                int way = wayBack(here);
                if (way == NONE) {
                    return;
                }
                state.put(net, here, way);
                here = board.beside[here * WAYS + way];
            }
        }

        private int wayBack(int here) {
            for (int way = 0; way < WAYS; way++) {
                int next = board.beside[here * WAYS + way];
                if (next != NONE && far[next] == far[here] - prices[here]) {
                    return way;
                }
            }
            return NONE;
        }

        int priceOf(State state, int net, int p) {
            int others = state.uses[p] - (state.has(net, p) ? 1 : 0);
            int over = others + 1 - board.widths[p];
            int[] named = law.named;
            named[0] = state.histories[p];
            named[1] = over > 0 ? over : 0;
            named[2] = state.crits[net];
            named[3] = state.round;
            named[4] = board.widths[p];
            named[5] = p % SIDE;
            named[6] = p / SIDE;
            named[7] = Integer.bitCount(board.pinBits[p] & ~(1 << net));
            return law.priceNow();
        }

        int distanceTo(State state, int net, int p) {
            Arrays.fill(prices, 0);
            spread(state, net, true);
            return far[p] == FAR ? NONE : far[p];
        }

        int sparedOf(State state, int net, int p) {
            int distance = distanceTo(state, net, p);
            if (distance == NONE) {
                return NONE;
            }
            int many = 0;
            for (int other = 0; other < PLACES; other++) {
                int steps = Math.abs(other % SIDE - p % SIDE) + Math.abs(other / SIDE - p / SIDE);
                if (far[other] < distance && far[other] + steps >= distance) {
                    many++;
                }
            }
            return many;
        }
    }

    /** The fewest places that join a net's pins: trees for sets of pins, made of trees for smaller sets. */
    private static final class Joiner {
        private static final int SETS = 1 << (PINS_MOST - 1);
        // Far above any number of steps, and two of them still add up.
        private static final int UNJOINED = 1000;
        private final Board board;
        private final Heap heap = new Heap();
        // The fewest steps between neighbours in a tree that has a set of the later pins and a place.
        private final int[] steps = new int[SETS * PLACES];

        Joiner(Board board) {
            this.board = board;
        }

        int fewestPlaces(State state, int net) {
            int pins = board.pinCounts[net];
            if (pins <= 1) {
                return pins;
            }
            Arrays.fill(steps, UNJOINED);
            for (int i = 1; i < pins; i++) {
                steps[(1 << (i - 1)) * PLACES + board.pins[net * PINS_MOST + i]] = 0;
            }
            int sets = 1 << (pins - 1);
            for (int set = 1; set < sets; set++) {
                joinParts(set);
                stepOn(state, set);
            }
            int least = steps[(sets - 1) * PLACES + board.rootOf(net)];
            return least >= UNJOINED ? NONE : least + 1;
        }

        private void joinParts(int set) {
            for (int part = 1; part < set; part++) {
                if ((part & ~set) == 0) {
                    for (int p = 0; p < PLACES; p++) {
                        int both = steps[part * PLACES + p] + steps[(set - part) * PLACES + p];
                        if (both < steps[set * PLACES + p]) {
                            steps[set * PLACES + p] = both;
                        }
                    }
                }
            }
        }

        private void stepOn(State state, int set) {
            int base = set * PLACES;
            heap.clear();
            for (int p = 0; p < PLACES; p++) {
                if (steps[base + p] < UNJOINED) {
                    heap.push(steps[base + p] * PLACES + p);
                }
            }
            for (int i = 0; i < Heap.ROOM && !heap.isEmpty(); i++) {
                int key = heap.pop();
                int here = key % PLACES;
                int next = key / PLACES + 1;
                for (int way = 0; way < WAYS && next - 1 == steps[base + here]; way++) {
                    int p = board.beside[here * WAYS + way];
                    if (p != NONE && state.walls[p] == 0 && next < steps[base + p]) {
                        steps[base + p] = next;
                        heap.push(next * PLACES + p);
                    }
                }
            }
        }
    }

    /** Pairs of a net and a deed behind which all lines of the book would be right. */
    private static final class Fitter {
        private static final int DEEDS = 2;
        private final Board board;
        private final Book book;
        private final Router router;
        final int[] pairs = new int[NETS_MOST * DEEDS];
        private final int[] usesBehind = new int[NETS_MOST * DEEDS * PLACES];
        private final int[] groups = new int[NETS_MOST + 1];

        Fitter(Board board, Book book, Router router) {
            this.board = board;
            this.book = book;
            this.router = router;
        }

        int findPairs(State state, State scratch) {
            int found = 0;
            for (int net = 0; net < board.nets; net++) {
                for (int deed = 0; deed < DEEDS; deed++) {
                    scratch.copyFrom(state);
                    boolean done = deed == 0 ? router.ripUp(scratch, net) : router.layAnew(scratch, net);
                    if (done && book.isRightBy(scratch.uses)) {
                        pairs[found] = 10 * net + deed;
                        System.arraycopy(scratch.uses, 0, usesBehind, found * PLACES, PLACES);
                        found++;
                    }
                }
            }
            return found;
        }

        /** How many of the pairs found are left, at the worst, once the uses of a place are known. */
        int biggestGroup(int found, int p) {
            Arrays.fill(groups, 0);
            int biggest = 0;
            for (int i = 0; i < found; i++) {
                int uses = usesBehind[i * PLACES + p];
                if (uses >= 0 && uses < groups.length) {
                    groups[uses]++;
                    biggest = groups[uses] > biggest ? groups[uses] : biggest;
                }
            }
            return biggest;
        }
    }

    /** States kept: ahead of each work that can be undone, and in images, with such works of their own. */
    private static final class Shelf {
        int works;
        int images;
        private final State[] ahead = new State[WORKS_MOST];
        private final State[] pictured = new State[IMAGES_MOST];
        private final State[] picturedAhead = new State[IMAGES_MOST * WORKS_MOST];
        private final int[] picturedWorks = new int[IMAGES_MOST];

        void forget() {
            works = 0;
            images = 0;
        }

        void keepWork(State state) {
            if (works >= WORKS_MOST) {
                return;
            }
            // While there are images, one of them may hold the state that stood here.
            if (images > 0 || ahead[works] == null) {
                ahead[works] = new State();
            }
            ahead[works].copyFrom(state);
            works++;
        }

        void takeWork(State state) {
            if (works > 0 && ahead[works - 1] != null) {
                works--;
                state.copyFrom(ahead[works]);
            }
        }

        void keepImage(State state) {
            if (images >= IMAGES_MOST) {
                return;
            }
            if (pictured[images] == null) {
                pictured[images] = new State();
            }
            pictured[images].copyFrom(state);
            for (int i = 0; i < works; i++) {
                picturedAhead[images * WORKS_MOST + i] = ahead[i];
            }
            picturedWorks[images] = works;
            images++;
        }

        void takeImage(State state) {
            if (images == 0 || pictured[images - 1] == null) {
                return;
            }
            images--;
            state.copyFrom(pictured[images]);
            works = picturedWorks[images];
            for (int i = 0; i < works; i++) {
                ahead[i] = picturedAhead[images * WORKS_MOST + i];
            }
        }
    }
}
