/** The promises 1 to 34, sentence by sentence: what each call answers, and what it refuses. */
final class PromiseSentences {
    private static final int WRONG = Kit.WRONG;
    private static final int NO_SUCH = Kit.NO_SUCH;
    private static final int LEAST = Integer.MIN_VALUE;
    private static final int MOST = Integer.MAX_VALUE;
    private static final String CROSS =
            "size 3 3;net 0 1;net 0 9;pin 0 0 1;pin 0 2 1;pin 1 1 0;pin 1 1 2;";
    private static final String DETOUR = "size 3 3;net 0 9;net 0 9;pin 0 0 0;pin 0 2 0;pin 1 1 0;";
    private static final String PARTED = "size 3 2;wall 1 0;wall 1 1;net 0 9;pin 0 0 0;pin 0 2 0;pin 0 0 1;";
    private static final String TWIN =
            "size 2 2;net 0 9;net 0 9;pin 0 0 0;pin 0 1 0;pin 1 0 0;pin 1 1 0;gain 7;";

    private static Kit kit(String board, String... works) {
        Kit k = Kit.of(board);
        for (String work : works) {
            k.work(work);
        }
        return k;
    }

    private interface Call {
        int of(int value);
    }

    /** Values that are refused, each counted once, with nothing else changed. */
    private static void refuses(Kit k, String what, int exception, Call call, int... values) {
        String before = k.print();
        for (int value : values) {
            int counted = k.wires.status(exception == NO_SUCH ? 0 : 1);
            int others = k.wires.status(exception == NO_SUCH ? 1 : 0);
            Kit.due(what + " " + value, exception, () -> call.of(value));
            Kit.due("counted: " + what, counted + 1, () -> k.wires.status(exception == NO_SUCH ? 0 : 1));
            Kit.due("not counted: " + what, others, () -> k.wires.status(exception == NO_SUCH ? 1 : 0));
        }
        Kit.same("all behind refused " + what, before, k.print());
    }

    private static void rows(String what, int[] due, Call call) {
        for (int i = 0; i < due.length; i++) {
            int at = i;
            Kit.due(what + " " + i, due[i], () -> call.of(at));
        }
    }

    private static void tape() {
        Kit.says("A BOARD without CLAUSES.");
        Kit k = new Kit();
        Kit empty = Kit.of("");
        Kit.same("a new object", empty.print(), k.print());
        rows("told of a new object", new int[] {4, 4, 0, 0, 0, 0, 1, 0, 0, 1, 0, 0, 0}, k.wires::told);
        rows("count of a new object", new int[] {0, 0, 0, -1}, k.wires::count);
        rows("status of a new object", new int[] {0, 0, -1}, k.wires::status);
        Kit.due("fault", -1, () -> k.wires.fault());
        Kit.due("undo", -1, () -> k.wires.undo());
        Kit.due("restore", -1, () -> k.wires.restore());
        Kit.due("no net", NO_SUCH, () -> k.wires.net(0, 0));
        Kit.due("a round", 1, () -> k.work("round;"));

        Kit.says("Twenty bytes come on the TAPE, of each number the highest first: how many there are; NONE, doing "
                + "nothing, if there would be more than 600.");
        Kit fed = new Kit();
        // "gain 4;net 9 60;" and four bytes that are no text
        Kit.due("feed", 20, () -> fed.wires.feed(0x6761696e, 0x20343b6e, 0x65742039, 0x2036303b, 0x80ff00ff));
        Kit.due("board", 1, () -> fed.wires.board(16));
        Kit.due("gain", 4, () -> fed.wires.told(9));
        Kit.due("limit", 60, () -> fed.wires.net(0, 1));
        for (int i = 1; i <= 30; i++) {
            int due = 20 * i;
            Kit.due("feed " + i, due, () -> fed.wires.feed(0x20202020, 0x20202020, 0x20202020, 0x20202020, 0x20202020));
        }
        Kit.due("full", -1, () -> fed.wires.feed(LEAST, MOST, -1, 0, 1));
        Kit.due("full still", -1, () -> fed.wires.feed(0, 0, 0, 0, 0));
        Kit.due("600 bytes", 600, () -> fed.wires.count(1));
        Kit.due("all of them blanks", 0, () -> fed.wires.board(600));
        Kit.due("room again", 20, () -> fed.wires.feed(-1, -1, -1, -1, -1));
        Kit.due("a byte of 255", -9, () -> fed.wires.board(1));
    }

    private static Kit full() {
        Kit k = kit(CROSS, "round;", "crit 0 3;rip 1;rip 1;");
        k.law("1 + over * 7 + past");
        k.book("1 1 1;");
        k.wires.image();
        return k;
    }

    private static void boards() {
        Kit.says("The first n bytes of the TAPE (empty then) are the BOARD (no LAW, BOOK, IMAGES, nothing to undo): how "
                + "many NETS; or the FAULT less 10 (all stays).");
        Kit k = full();
        String before = k.print();
        Kit.due("a fault of kind 1", -9, () -> k.board("size 2 2;net 0 0;x"));
        Kit.due("the tape is empty behind a fault, too", 0, () -> k.wires.count(1));
        Kit.same("behind the fault all", before, k.print());
        Kit.due("a fault of kind 2", -8, () -> k.board("size 2 2;gain 10;"));
        Kit.same("behind the fault all", before, k.print());
        Kit.due("a fault of kind 3", -7, () -> k.board("net 0 0;".repeat(7)));
        Kit.same("behind the fault all", before, k.print());
        k.feed("net 0 0;net 0 0;gain 5;");
        Kit.due("the first 16 of 40 bytes", 2, () -> k.wires.board(16));
        Kit.due("the tape is empty", 0, () -> k.wires.count(1));
        Kit.due("the gain is not told", 1, () -> k.wires.told(9));
        Kit.due("no law", 4, () -> k.wires.would(0, 1, 0, 0, 1, 0, 0, 0));
        Kit.due("no book", 0, () -> k.wires.told(10));
        Kit.due("no images", -1, () -> k.wires.restore());
        Kit.due("nothing to undo", -1, () -> k.wires.undo());
        Kit.due("none refused", 0, () -> k.wires.told(11));
        k.feed("net 0 0;");
        Kit.due("of no bytes", 0, () -> k.wires.board(0));
        Kit.due("the tape is empty then, too", 0, () -> k.wires.count(1));

        Kit.says("IllegalArgumentException: n is not 0 to the TAPE's bytes (it stays).");
        Kit r = full();
        refuses(r, "board of an empty tape", WRONG, r.wires::board, -1, 1, 600, LEAST, MOST);
        r.feed("size 2 2;gain 9;");
        refuses(r, "board of 20 bytes", WRONG, r.wires::board, -1, 21, LEAST, MOST);
        Kit.due("the tape stays", 20, () -> r.wires.count(1));
        Kit.due("all 20 bytes", 0, () -> r.wires.board(20));
        Kit.due("gain", 9, () -> r.wires.told(9));
    }

    private static void laws() {
        Kit.says("Likewise the LAW (n to 150): 1.");
        Kit k = full();
        String before = k.print();
        Kit.due("a fault", -9, () -> k.law("5 +"));
        Kit.due("the tape is empty", 0, () -> k.wires.count(1));
        Kit.same("behind the fault all", before, k.print());
        k.feed("1" + "+1".repeat(90));
        refuses(k, "law of 200 bytes", WRONG, k.wires::law, -1, 151, 200, 201, LEAST, MOST);
        Kit.due("the tape stays", 200, () -> k.wires.count(1));
        Kit.due("150 of them end too early", -9, () -> k.wires.law(150));
        Kit.due("at the length", 150, () -> k.wires.fault());
        k.feed("1" + "+1".repeat(90));
        Kit.due("149 of them", 1, () -> k.wires.law(149));
        Kit.due("the tape is empty", 0, () -> k.wires.count(1));
        Kit.due("75", 75, () -> k.wires.cost(0, 0, 0));
        k.feed("8");
        refuses(k, "law of 20 bytes", WRONG, k.wires::law, 21, 150);
        Kit.due("the first byte", 1, () -> k.wires.law(1));
        Kit.due("8", 8, () -> k.wires.cost(1, 2, 2));
        Kit.due("the book stays", 1, () -> k.wires.told(10));
        Kit.due("images stay", 1, () -> k.wires.count(0));
        Kit.due("works stay", 2, () -> k.wires.count(2));
        Kit.due("trees stay", 3, () -> k.wires.told(8));
    }

    private static void works() {
        Kit.says("Likewise WORK (n to 150), which is done: how many STEPS were done (agains not counted, nor REFUSED "
                + "ones); or the FAULT less 10 (none is);");
        Kit k = full();
        String before = k.print();
        Kit.due("a fault of kind 1 behind a step", -9, () -> k.work("lay 1;lay 0"));
        Kit.same("behind the fault all", before, k.print());
        Kit.due("a fault of kind 2 behind a step", -8, () -> k.work("lay 1;lay 2;"));
        Kit.same("behind the fault all", before, k.print());
        Kit.due("a fault of kind 3 behind a step", -7, () -> k.work("lay 1;" + "again 0[".repeat(7)));
        Kit.same("behind the fault all", before, k.print());
        Kit.due("the tape is empty", 0, () -> k.wires.count(1));
        k.feed(" ".repeat(160));
        refuses(k, "work of 160 bytes", WRONG, k.wires::work, -1, 151, 160, 161, LEAST, MOST);
        Kit.due("the tape stays", 160, () -> k.wires.count(1));
        Kit.due("150 of them", 0, () -> k.wires.work(150));
        Kit.due("the tape is empty", 0, () -> k.wires.count(1));
        refuses(k, "work of an empty tape", WRONG, k.wires::work, 1, 150);
        Kit.due("of no bytes", 0, () -> k.wires.work(0));
        Kit.due("two works more", 4, () -> k.wires.count(2));
        Kit.due("three done, one refused, two agains", 3, () -> k.work("again 1[again 1[lay 1;];rip 1;rip 1;];ease 1;"));
        k.feed("ease 1;ease 1;ease 1");
        Kit.due("the first 14 bytes", 2, () -> k.wires.work(14));

        Kit.says("-20 ahead of that (nothing is read, there is no FAULT, the TAPE is empty then): 16 WORKS are there that "
                + "were not undone.");
        Kit s = kit(DETOUR);
        for (int i = 1; i <= 16; i++) {
            int due = i % 2;
            Kit.due("work " + i, due, () -> s.work(due == 1 ? "round;" : ""));
        }
        Kit.due("a fault", -9, () -> s.law("x"));
        String full = s.print();
        Kit.due("the 17th", -20, () -> s.work("rip 0;"));
        Kit.same("all", full, s.print());
        Kit.due("no fault", -1, () -> s.wires.fault());
        Kit.due("the tape is empty", 0, () -> s.wires.count(1));
        Kit.due("ahead of a fault", -20, () -> s.work("bad"));
        Kit.due("no fault", -1, () -> s.wires.fault());
        Kit.due("of no bytes", -20, () -> s.wires.work(0));
        refuses(s, "a length that is none", WRONG, s.wires::work, -1, 1, 151);
        Kit.due("undo", 15, () -> s.wires.undo());
        Kit.due("one has room", 1, () -> s.work("rip 0;"));
        Kit.due("no more", -20, () -> s.work("lay 0;"));
        s.wires.image();
        Kit.due("an image makes no room", -20, () -> s.work("lay 0;"));
        s.board(DETOUR);
        Kit.due("a board does", 1, () -> s.work("lay 0;"));
    }

    private static void books() {
        Kit.says("Likewise the BOOK (n to 60): how many lines.");
        Kit k = full();
        String before = k.print();
        Kit.due("a fault", -9, () -> k.book("0 0 0;1"));
        Kit.same("behind the fault all", before, k.print());
        k.feed("0 0 0;" + " ".repeat(60));
        refuses(k, "book of 80 bytes", WRONG, k.wires::book, -1, 61, 80, 81, LEAST, MOST);
        Kit.due("the tape stays", 80, () -> k.wires.count(1));
        Kit.due("60 of them", 1, () -> k.wires.book(60));
        Kit.due("the tape is empty", 0, () -> k.wires.count(1));
        refuses(k, "book of an empty tape", WRONG, k.wires::book, 1, 60);
        Kit.due("three lines instead", 3, () -> k.book("0 0 0;2 2 6;1 1 1;"));
        Kit.due("lines", 3, () -> k.wires.told(10));
        Kit.due("none instead", 0, () -> k.wires.book(0));
        Kit.due("lines", 0, () -> k.wires.told(10));
        Kit.due("works stay", 2, () -> k.wires.count(2));
        Kit.due("images stay", 1, () -> k.wires.count(0));

        Kit.says("The place of the FAULT of the latest text; NONE without.");
        Kit f = full();
        Kit.due("without", -1, () -> f.wires.fault());
        Kit.due("board", -8, () -> f.board("  size 1 1;"));
        Kit.due("its place", 7, () -> f.wires.fault());
        Kit.due("law", -9, () -> f.law("1+"));
        Kit.due("its place", 2, () -> f.wires.fault());
        Kit.due("refused", WRONG, () -> f.wires.law(1));
        Kit.due("that was no text", 2, () -> f.wires.fault());
        f.wires.undo();
        f.wires.restore();
        Kit.due("nor that", 2, () -> f.wires.fault());
        Kit.due("work", -9, () -> f.work("x"));
        Kit.due("its place", 0, () -> f.wires.fault());
        Kit.due("book", 1, () -> f.book("0 0 0;"));
        Kit.due("without", -1, () -> f.wires.fault());
        Kit.due("book", -8, () -> f.book("0 0 9;"));
        Kit.due("its place", 4, () -> f.wires.fault());
        Kit.due("work", 0, () -> f.work(""));
        Kit.due("without", -1, () -> f.wires.fault());
        Kit.due("law", -9, () -> f.law(""));
        Kit.due("its place", 0, () -> f.wires.fault());
        Kit.due("law", 1, () -> f.law("1"));
        Kit.due("without", -1, () -> f.wires.fault());
        Kit.due("board", -7, () -> f.board("net 0 0;".repeat(7)));
        Kit.due("its place", 48, () -> f.wires.fault());
        Kit.due("board", 0, () -> f.board(""));
        Kit.due("without", -1, () -> f.wires.fault());
    }

    private static void undone() {
        Kit.says("The latest WORK that was done (of no STEPS, too) is undone: how many are left; -1: there is none.");
        Kit k = kit("size 3 3;wall 2 2;net 4 9;net 0 9;pin 0 0 0;pin 0 2 0;pin 1 0 0;pin 1 2 0;");
        Kit.due("there is none", -1, () -> k.wires.undo());
        String[] works = {"round;", "round;", "", "block 2 2;block 0 2;crit 0 9;", "rip 1;rip 1;", "ease 1;lay 1;"};
        String[] ahead = new String[works.length];
        for (int i = 0; i < works.length; i++) {
            ahead[i] = k.state();
            k.work(works[i]);
        }
        Kit.due("a fault is no work", -9, () -> k.work("x"));
        Kit.due("refused is no work", WRONG, () -> k.wires.work(9));
        for (int i = works.length - 1; i >= 0; i--) {
            int left = i;
            Kit.due("undo of work " + i, left, () -> k.wires.undo());
            Kit.same("ahead of work " + i, ahead[i], k.state());
            Kit.due("none refused", 0, () -> k.wires.told(11));
        }
        Kit.due("there is none any more", -1, () -> k.wires.undo());
        Kit.same("and nothing is undone", ahead[0], k.state());
    }

    private static void told() {
        Kit.says("0 W, 1 H, 2 NETS, 3 the ROUND, 4 NETS that are JOINED (bits), 5 how many PLACES are OVER, 6 1 ALL IS "
                + "DONE, 0 not, 7 LATE (bits), 8 PLACES of all TREES together, 9 the gain, 10 lines of the BOOK, 11 STEPS "
                + "REFUSED by the latest WORK (0 ahead of any, behind undo(), restore()), 12 how many PLACES have walls.");
        Kit k = kit("size 3 4;wall 0 3;wall 2 3;gain 8;net 0 1;net 0 9;net 0 0;pin 0 0 1;pin 0 2 1;pin 1 1 0;pin 1 1 2;",
                "round;round;rip 1;rip 1;rip 2;lay 1;");
        k.book("0 0 0;1 1 2;");
        // Net 0 goes around by the north in the second round, and shares the root of net 1 there.
        rows("told", new int[] {3, 4, 3, 2, 7, 1, 0, 1, 5 + 3, 8, 2, 2, 2}, k.wires::told);
        k.work("rip 0;");
        Kit.due("joined: not net 0", 6, () -> k.wires.told(4));
        Kit.due("late: net 0, not joined", 1, () -> k.wires.told(7));
        Kit.due("refused by the latest", 0, () -> k.wires.told(11));
        Kit r = kit(DETOUR);
        Kit.due("refused ahead of any", 0, () -> r.wires.told(11));
        r.work("rip 0;rip 1;");
        Kit.due("refused", 2, () -> r.wires.told(11));
        Kit.due("a fault", -9, () -> r.work("x"));
        Kit.due("was no work", 2, () -> r.wires.told(11));
        r.wires.undo();
        Kit.due("behind undo()", 0, () -> r.wires.told(11));
        r.work("rip 0;");
        r.wires.image();
        Kit.due("an image is none of these", 1, () -> r.wires.told(11));
        r.wires.restore();
        Kit.due("behind restore()", 0, () -> r.wires.told(11));
        Kit.due("six nets", 63, () -> Kit.of("net 0 0;".repeat(6)).wires.told(4));

        Kit.says("IllegalArgumentException: another what (so below).");
        refuses(k, "told", WRONG, k.wires::told, -1, 13, LEAST, MOST);
        refuses(k, "net", WRONG, w -> k.wires.net(0, w), -1, 11, LEAST, MOST);
        refuses(k, "place", WRONG, w -> k.wires.place(2, 3, w), -1, 7, LEAST, MOST);
        refuses(k, "ahead", WRONG, w -> k.wires.ahead(0, w), -1, 4, LEAST, MOST);
        refuses(k, "fits", WRONG, k.wires::fits, -1, 2, LEAST, MOST);
        refuses(k, "look", WRONG, k.wires::look, -1, 2, LEAST, MOST);
        refuses(k, "crowd", WRONG, k.wires::crowd, -1, 2, LEAST, MOST);
        refuses(k, "tight", WRONG, k.wires::tight, -1, 2, LEAST, MOST);
        Kit s = kit(DETOUR);
        refuses(s, "season", WRONG, w -> s.wires.season(1, 1, 0, w), -1, 4, LEAST, MOST);
        refuses(s, "span", WRONG, w -> s.wires.span(1, 1, 1, 0, w, 0), -1, 3, LEAST, MOST);
    }

    private static void nets() {
        Kit.says("Of a NET: 0 C by now, 1 LIMIT, 2 pins, 3 PLACES of its TREE, 4 how many of these are OVER, 5 DELAY, 6 "
                + "LIMIT less DELAY, 7 leaves (PLACES of its TREE that are nobody's PARENT), 8 forks (PARENTS of two or "
                + "more), 9 the most steps by PARENTS from any of its PLACES to the ROOT, 10 1 it is JOINED, 0 not.");
        Kit none = Kit.of("net 9 60;");
        rows("a net without pins", new int[] {9, 60, 0, 0, 0, 0, 60, 0, 0, 0, 1}, w -> none.wires.net(0, w));
        Kit empty = Kit.of(PARTED);
        rows("an empty tree", new int[] {0, 9, 3, 0, 0, 0, 9, 0, 0, 0, 0}, w -> empty.wires.net(0, w));
        Kit root = kit("net 1 0;pin 0 3 3;", "lay 0;crit 0 2;");
        rows("a root alone is a leaf", new int[] {2, 0, 1, 1, 0, 0, 0, 1, 0, 0, 1}, w -> root.wires.net(0, w));
        Kit line = kit("size 8 2;net 0 6;pin 0 0 0;pin 0 7 0;", "lay 0;");
        rows("a line, too late", new int[] {0, 6, 2, 8, 0, 7, -1, 1, 0, 7, 1}, w -> line.wires.net(0, w));
        Kit star = kit("size 5 5;net 3 60;net 0 0;net 0 0;pin 0 2 2;pin 0 4 2;pin 0 0 2;pin 0 2 4;pin 1 2 2;pin 2 4 2;",
                "lay 0;lay 1;lay 2;");
        rows("a star: one fork of three", new int[] {3, 60, 4, 7, 2, 2, 58, 3, 1, 2, 1}, w -> star.wires.net(0, w));
        Kit comb = kit("size 5 3;wall 0 1;wall 2 1;wall 4 1;net 0 9;pin 0 0 0;pin 0 4 0;pin 0 1 2;pin 0 3 2;", "lay 0;");
        // To 1,2, on to 3,2, and back to the north at the end: a line without forks.
        rows("a winding line", new int[] {0, 9, 4, 9, 0, 8, 1, 1, 0, 8, 1}, w -> comb.wires.net(0, w));
        Kit branch = kit("size 4 4;net 0 9;pin 0 0 0;pin 0 3 0;pin 0 2 2;", "lay 0;");
        rows("a fork of two", new int[] {0, 9, 3, 6, 0, 4, 5, 2, 1, 4, 1}, w -> branch.wires.net(0, w));
        Kit parted = kit(PARTED, "lay 0;");
        rows("a part of the pins", new int[] {0, 9, 3, 2, 0, 1, 8, 1, 0, 1, 0}, w -> parted.wires.net(0, w));

        Kit.says("NoSuchElementException: no such NET, PLACE, row (so below, ahead of others).");
        Kit k = kit(CROSS, "round;");
        int[] noNets = {-1, 2, 6, LEAST, MOST};
        refuses(k, "net", NO_SUCH, n -> k.wires.net(n, 0), noNets);
        refuses(k, "net, ahead of a wrong what", NO_SUCH, n -> k.wires.net(n, 99), noNets);
        noSuchNets(noNets);
        noSuchPlaces();
        noSuchRows();
    }

    private static void noSuchNets(int[] noNets) {
        Kit a = kit(CROSS, "round;");
        refuses(a, "cost", NO_SUCH, n -> a.wires.cost(n, 0, 0), noNets);
        refuses(a, "parent", NO_SUCH, n -> a.wires.parent(n, 0, 0), noNets);
        refuses(a, "dist", NO_SUCH, n -> a.wires.dist(n, 0, 0), noNets);
        Kit b = kit(CROSS, "round;");
        refuses(b, "spared", NO_SUCH, n -> b.wires.spared(n, 0, 0), noNets);
        refuses(b, "fewest", NO_SUCH, b.wires::fewest, noNets);
        refuses(b, "tree", NO_SUCH, n -> b.wires.tree(n, 0), noNets);
        Kit c = kit(CROSS, "round;");
        refuses(c, "meet", NO_SUCH, n -> c.wires.meet(n, 0), noNets);
        refuses(c, "meet with", NO_SUCH, n -> c.wires.meet(0, n), noNets);
        refuses(c, "dear", NO_SUCH, c.wires::dear, noNets);
        Kit d = kit(CROSS, "round;");
        refuses(d, "shed", NO_SUCH, d.wires::shed, noNets);
        refuses(d, "span", NO_SUCH, n -> d.wires.span(1, 1, 1, 1, 0, n), noNets);
        refuses(d, "span, ahead of others", NO_SUCH, n -> d.wires.span(1, 0, 0, 99, 9, n), noNets);
        Kit none = new Kit();
        refuses(none, "no nets at all", NO_SUCH, none.wires::fewest, 0);
    }

    private static void noSuchPlaces() {
        int[] noX = {-1, 3, 8, LEAST, MOST};
        int[] noY = {-1, 2, 8, LEAST, MOST};
        String board = "size 3 2;net 0 9;pin 0 0 0;pin 0 2 1;";
        Kit a = kit(board, "lay 0;");
        refuses(a, "place x", NO_SUCH, x -> a.wires.place(x, 0, 0), noX);
        refuses(a, "place y, ahead of a wrong what", NO_SUCH, y -> a.wires.place(0, y, 7), noY);
        refuses(a, "cost x", NO_SUCH, x -> a.wires.cost(0, x, 1), noX);
        refuses(a, "cost y", NO_SUCH, y -> a.wires.cost(0, 2, y), noY);
        Kit b = kit(board, "lay 0;");
        refuses(b, "parent x", NO_SUCH, x -> b.wires.parent(0, x, 1), noX);
        refuses(b, "parent y", NO_SUCH, y -> b.wires.parent(0, 2, y), noY);
        refuses(b, "dist x", NO_SUCH, x -> b.wires.dist(0, x, 1), noX);
        refuses(b, "dist y", NO_SUCH, y -> b.wires.dist(0, 2, y), noY);
        Kit c = kit(board, "lay 0;");
        refuses(c, "spared x", NO_SUCH, x -> c.wires.spared(0, x, 1), noX);
        refuses(c, "spared y", NO_SUCH, y -> c.wires.spared(0, 2, y), noY);
        refuses(c, "neither net nor place, counted once", NO_SUCH, y -> c.wires.cost(9, 9, y), noY);
        Kit.due("the last place", 1, () -> c.wires.place(2, 1, 1));
    }

    private static void noSuchRows() {
        Kit k = kit("size 3 2;net 0 9;pin 0 0 0;pin 0 2 1;", "lay 0;");
        int[] noY = {-1, 2, 8, LEAST, MOST};
        refuses(k, "jam", NO_SUCH, k.wires::jam, noY);
        refuses(k, "tree y", NO_SUCH, y -> k.wires.tree(0, y), noY);
        Kit.due("the last row of a jam", 0, () -> k.wires.jam(1));
        Kit.due("the last row of a tree", 4, () -> k.wires.tree(0, 1));
        Kit high = Kit.of("size 2 8;");
        Kit.due("row 7", 0, () -> high.wires.jam(7));
    }

    private static void places() {
        Kit.says("Of the PLACE at x, y: 0 its width, 1 USES, 2 HISTORY, 3 1 a wall, 0 none, 4 NETS whose TREES have it "
                + "(bits), 5 NETS with a pin there (bits), 6 by how much it is OVER.");
        StringBuilder six = new StringBuilder("size 8 8;wide 7 7 2;gain 3;wall 0 7;");
        for (int i = 0; i < 6; i++) {
            six.append("net 0 0;pin ").append(i).append(" 7 7;");
        }
        Kit k = kit(six.toString());
        rows("at first", new int[] {2, 0, 0, 0, 0, 63, 0}, w -> k.wires.place(7, 7, w));
        k.work("round;rip 0;");
        rows("all but one", new int[] {2, 5, 12, 0, 62, 63, 3}, w -> k.wires.place(7, 7, w));
        rows("a wall", new int[] {1, 0, 0, 1, 0, 0, 0}, w -> k.wires.place(0, 7, w));
        rows("a place", new int[] {1, 0, 0, 0, 0, 0, 0}, w -> k.wires.place(7, 0, w));

        Kit.says("COST of the PLACE at x, y for a NET now (in its TREE or not, wall or not).");
        Kit c = kit("wall 0 0;" + CROSS, "round;");
        Kit.due("in its tree, alone", 1, () -> c.wires.cost(0, 0, 1));
        Kit.due("in its tree, shared", 1 + 1 + 4, () -> c.wires.cost(0, 1, 1));
        Kit.due("in the other's tree", 1 + 4, () -> c.wires.cost(0, 1, 0));
        Kit.due("in none", 1, () -> c.wires.cost(0, 2, 2));
        Kit.due("a wall", 1, () -> c.wires.cost(0, 0, 0));
        c.law("col * 10 + row - 5");
        Kit.due("a wall by another law", 1, () -> c.wires.cost(0, 0, 0));
        Kit.due("by another law", 17, () -> c.wires.cost(0, 2, 2));
        Kit.due("a net without pins", 17, () -> {
            Kit n = Kit.of("net 0 0;");
            n.law("17");
            return n.wires.cost(0, 3, 3);
        });
    }

    private static void would() {
        Kit.says("COST by the LAW for such past (0 to 9,999), over (0 to 6), crit (0 to 9), round (0 to 400), wide (1 to "
                + "3), col, row (0 to 7 both), pins (0 to 6).");
        int[] low = {0, 0, 0, 0, 1, 0, 0, 0};
        int[] high = {9999, 6, 9, 400, 3, 7, 7, 6};
        String[] names = {"past", "over", "crit", "round", "wide", "col", "row", "pins"};
        for (int i = 0; i < 8; i++) {
            int at = i;
            Kit k = new Kit();
            k.law(names[i] + " / 11 + " + names[i] + " % 11 * 10 + 1");
            for (int value : new int[] {low[i], high[i]}) {
                int due = Math.min(999, value / 11 + value % 11 * 10 + 1);
                Kit.due(names[i] + " of " + value, due, () -> would(k, low, at, value));
                Kit.due(names[i] + " of " + value + ", others high", due, () -> would(k, high, at, value));
            }
            refuses(k, "would " + names[i], WRONG, v -> would(k, low, at, v), low[i] - 1, high[i] + 1, LEAST, MOST);
        }
        Kit all = new Kit();
        all.law("0 - past");
        Kit.due("1 at least", 1, () -> all.wires.would(9999, 6, 9, 400, 3, 7, 7, 6));
        refuses(all, "all wrong, counted once", WRONG, v -> all.wires.would(v, v, v, v, v, v, v, v), -1, MOST);
    }

    private static int would(Kit k, int[] others, int at, int value) {
        int[] v = others.clone();
        v[at] = value;
        return k.wires.would(v[0], v[1], v[2], v[3], v[4], v[5], v[6], v[7]);
    }

    private static void ways() {
        Kit.says("Where the PARENT of x, y in a NET's TREE lies: 0 north, 1 east, 2 south, 3 west, 4 it is the ROOT; "
                + "NONE: it is not in the TREE.");
        Kit k = kit("size 3 3;net 0 9;pin 0 1 1;pin 0 0 0;pin 0 2 2;", "lay 0;");
        // 0,0: east is the first (1,0); 2,2: north is the first (2,1)
        int[] due = {1, 2, -1, -1, 4, 3, -1, -1, 0};
        rows("parent", due, i -> k.wires.parent(0, i % 3, i / 3));
        Kit.due("an empty tree", -1, () -> Kit.of(CROSS).wires.parent(0, 0, 1));
        Kit.due("a wall", -1, () -> kit(PARTED, "lay 0;").wires.parent(0, 1, 0));
        Kit.due("in another's tree", -1, () -> kit(CROSS, "lay 1;").wires.parent(0, 1, 1));

        Kit.says("DIST of x, y from a NET's TREE; NONE: there is none, a wall, or the TREE is empty.");
        Kit p = Kit.of(PARTED);
        Kit.due("empty", -1, () -> p.wires.dist(0, 0, 0));
        p.work("lay 0;");
        Kit.due("in the tree", 0, () -> p.wires.dist(0, 0, 1));
        Kit.due("a wall", -1, () -> p.wires.dist(0, 1, 1));
        Kit.due("behind the walls", -1, () -> p.wires.dist(0, 2, 1));
        p.work("block 1 1;");
        Kit.due("the wall is gone", 2, () -> p.wires.dist(0, 2, 1));
        p.law("999");
        Kit.due("dear", 999 * 3, () -> p.wires.dist(0, 2, 0));
        Kit.due("without pins", -1, () -> Kit.of("net 0 0;").wires.dist(0, 0, 0));

        Kit.says("SPARED; NONE: DIST is NONE.");
        Kit s = Kit.of(PARTED);
        Kit.due("empty", -1, () -> s.wires.spared(0, 0, 0));
        s.work("lay 0;");
        Kit.due("a wall", -1, () -> s.wires.spared(0, 1, 1));
        Kit.due("behind the walls", -1, () -> s.wires.spared(0, 2, 1));
        Kit.due("in the tree", 0, () -> s.wires.spared(0, 0, 1));
        s.work("block 1 1;");
        // 0,0: 0 and 3; 0,1: 0 and 2; 1,1: 1 and 1; not less than 2
        Kit.due("all", 3, () -> s.wires.spared(0, 2, 1));
    }

    private static void ahead() {
        Kit.says("SETTLED.");
        Kit k = kit(DETOUR);
        Kit.due("in two rounds", 2, () -> k.wires.settled());
        Kit.due("never", -1, () -> Kit.of(TWIN).wires.settled());

        Kit.says("JAM of a row y (bits, by x).");
        Kit t = Kit.of(TWIN);
        Kit.due("both pins", 3, () -> t.wires.jam(0));
        Kit.due("none", 0, () -> t.wires.jam(1));
        Kit corner = Kit.of("size 8 8;net 0 0;net 0 0;pin 0 7 7;pin 1 7 7;net 0 0;net 0 0;pin 2 0 7;pin 3 0 7;");
        Kit.due("by x", 128 + 1, () -> corner.wires.jam(7));
        Kit.due("another row", 0, () -> corner.wires.jam(6));

        Kit.says("In n rounds (0 to 40): 0 how many PLACES are OVER, 1 NETS that are JOINED (bits), 2 PLACES of all TREES "
                + "together, 3 HISTORIES of all PLACES together.");
        rows("in 0 rounds", new int[] {0, 0, 0, 0}, w -> k.wires.ahead(0, w));
        rows("in 1 round", new int[] {1, 3, 4, 1}, w -> k.wires.ahead(1, w));
        rows("in 2 rounds", new int[] {0, 3, 6, 1}, w -> k.wires.ahead(2, w));
        rows("in 40 rounds", new int[] {0, 3, 6, 1}, w -> k.wires.ahead(40, w));
        rows("in 40 rounds, jammed", new int[] {2, 3, 4, 2 * 7 * 40}, w -> t.wires.ahead(40, w));
        refuses(k, "ahead n", WRONG, n -> k.wires.ahead(n, 0), -1, 41, LEAST, MOST);

        Kit.says("FEWEST of a NET.");
        Kit.due("behind walls", -1, () -> Kit.of(PARTED).wires.fewest(0));
        Kit.due("straight", 3, () -> k.wires.fewest(0));
        Kit.due("one pin", 1, () -> k.wires.fewest(1));

        Kit.says("The PLACES of a row y that a NET's TREE has (bits, by x).");
        Kit wide = kit("size 8 8;net 0 9;pin 0 0 7;pin 0 7 7;", "lay 0;");
        Kit.due("a whole row", 255, () -> wide.wires.tree(0, 7));
        Kit.due("another row", 0, () -> wide.wires.tree(0, 0));
        wide.work("rip 0;");
        Kit.due("an empty tree", 0, () -> wide.wires.tree(0, 7));

        Kit.says("How many PLACES the TREES of two NETS have in common (of one with itself: all of it).");
        Kit c = kit(CROSS);
        Kit.due("empty ones", 0, () -> c.wires.meet(0, 1));
        Kit.due("an empty one with itself", 0, () -> c.wires.meet(0, 0));
        c.work("lay 0;lay 1;");
        Kit.due("the middle", 1, () -> c.wires.meet(0, 1));
        Kit.due("the other way round", 1, () -> c.wires.meet(1, 0));
        Kit.due("with itself", 3, () -> c.wires.meet(1, 1));
        c.work("rip 0;");
        Kit.due("with an empty one", 0, () -> c.wires.meet(1, 0));
    }

    private static void costly() {
        Kit.says("What all PLACES of a NET's TREE but the ROOT COST it now, together.");
        Kit k = kit(CROSS);
        Kit.due("empty", 0, () -> k.wires.dear(0));
        k.work("lay 0;");
        Kit.due("alone", 2, () -> k.wires.dear(0));
        k.work("lay 1;");
        Kit.due("shared", 4 + 1, () -> k.wires.dear(0));
        k.law("999");
        Kit.due("by the law now", 2 * 999, () -> k.wires.dear(0));
        Kit root = kit("net 0 0;pin 0 0 0;", "lay 0;");
        Kit.due("the root alone", 0, () -> root.wires.dear(0));
        Kit.due("without pins", 0, () -> Kit.of("net 0 0;").wires.dear(0));

        Kit.says("What SHEDS would leave of a NET's TREE now: how many PLACES (0: it has no pins).");
        Kit.due("without pins", 0, () -> Kit.of("net 0 0;").wires.shed(0));
        Kit.due("an empty tree: the root", 1, () -> Kit.of(CROSS).wires.shed(0));
        Kit.due("all, if nothing is over", 3, () -> kit(CROSS, "lay 0;").wires.shed(0));
        Kit s = kit(CROSS, "lay 0;lay 1;");
        Kit.due("the root", 1, () -> s.wires.shed(0));
        Kit.due("nothing is shed", 3, () -> s.wires.net(0, 3));
        Kit t = kit(TWIN, "lay 0;lay 1;");
        Kit.due("the root, though it is over", 1, () -> t.wires.shed(1));

        Kit.says("FITS: 0 how many, 1 the first (NONE).");
        Kit.due("how many", 4, () -> s.wires.fits(0));
        Kit.due("the first", 0, () -> s.wires.fits(1));
        s.book("0 0 6;");
        Kit.due("none", 0, () -> s.wires.fits(0));
        Kit.due("no first", -1, () -> s.wires.fits(1));

        Kit.says("LOOK: 0 the PLACE (10 times y, and x), 1 how many are left at the worst; NONE both: all are in lines.");
        Kit l = Kit.of("size 2 4;net 0 0;pin 0 1 3;");
        Kit.due("only lay 0 can be done: the first place", 0, () -> l.wires.look(0));
        Kit.due("it is left", 1, () -> l.wires.look(1));
        l.book("0 0 0;1 0 0;0 1 0;1 1 0;0 2 0;1 2 0;0 3 0;");
        Kit.due("the only place left", 31, () -> l.wires.look(0));
        Kit.due("lay 0", 1, () -> l.wires.look(1));
        l.book("0 0 0;1 0 0;0 1 0;1 1 0;0 2 0;1 2 0;0 3 0;1 3 1;");
        Kit.due("all are in lines", -1, () -> l.wires.look(0));
        Kit.due("all are in lines", -1, () -> l.wires.look(1));
        Kit.due("though one fits", 1, () -> l.wires.fits(0));
    }

    private static void most() {
        Kit.says("The PLACE of most USES (what 0: 10 times y, and x), of alike ones the first (by y, then x; so if "
                + "nothing is used), how many (1).");
        Kit k = kit(CROSS);
        Kit.due("nothing is used", 0, () -> k.wires.crowd(0));
        Kit.due("how many", 0, () -> k.wires.crowd(1));
        k.work("lay 0;");
        Kit.due("alike ones: the first", 10, () -> k.wires.crowd(0));
        k.work("lay 1;");
        Kit.due("the middle", 11, () -> k.wires.crowd(0));
        Kit.due("two", 2, () -> k.wires.crowd(1));
        k.work("rip 0;");
        Kit.due("alike ones: the first by y", 1, () -> k.wires.crowd(0));
        Kit far = kit("size 8 8;wide 7 7 3;net 0 0;net 0 0;pin 0 7 7;pin 1 7 7;", "lay 0;lay 1;");
        Kit.due("the last place", 77, () -> far.wires.crowd(0));
        Kit.due("two, its width all the same", 2, () -> far.wires.crowd(1));

        Kit.says("The NET of least LIMIT less DELAY of those that are JOINED and have pins (what 0), of alike ones the "
                + "first, how much (1); -1,000 both: there is none.");
        Kit.due("no nets", -1000, () -> new Kit().wires.tight(0));
        Kit.due("no nets", -1000, () -> new Kit().wires.tight(1));
        Kit t = kit("size 5 3;net 0 0;net 0 5;net 0 3;net 0 3;pin 1 0 0;pin 1 4 0;pin 2 0 1;pin 2 2 1;pin 3 0 2;pin 3 2 2;");
        Kit.due("none joined that has pins", -1000, () -> t.wires.tight(0));
        Kit.due("none joined that has pins", -1000, () -> t.wires.tight(1));
        t.work("lay 1;lay 2;lay 3;");
        Kit.due("5 less 4, 3 less 2, 3 less 2", 1, () -> t.wires.tight(0));
        Kit.due("alike", 1, () -> t.wires.tight(1));
        t.work("rip 1;");
        Kit.due("of those that are joined", 2, () -> t.wires.tight(0));
        Kit late = kit("size 8 2;net 0 3;net 0 0;pin 0 0 0;pin 0 7 0;pin 1 0 1;pin 1 7 1;", "lay 0;lay 1;");
        Kit.due("the later one", 1, () -> late.wires.tight(0));
        Kit.due("below 0", -7, () -> late.wires.tight(1));
        Kit.due("a net that is not joined", -1000, () -> kit(PARTED, "lay 0;").wires.tight(0));
    }

    private static void seasons() {
        Kit.says("A SEASON of so many times (1 to 40), Q (0 to 16): 0 how many PLACES are OVER then, 1 NETS that are "
                + "JOINED then (bits), 2 the ROUND then, 3 PLACES of all TREES together then.");
        Kit t = Kit.of(TWIN);
        rows("one round", new int[] {2, 3, 1, 4}, w -> t.wires.season(1, 1, 0, w));
        Kit.due("forty times, always eased", 2, () -> t.wires.season(1, 40, 16, 0));
        refuses(t, "season many", WRONG, v -> t.wires.season(1, v, 0, 0), 0, 41, -1, LEAST, MOST);
        refuses(t, "season q", WRONG, v -> t.wires.season(1, 1, v, 0), -1, 17, LEAST, MOST);
        for (int seed : new int[] {LEAST, -1, 0, MOST}) {
            Kit.due("any seed", t.wires.season(seed, 5, 5, 2), () -> t.wires.season(seed, 5, 5, 2));
        }

        Kit.says("Of so many SEEDS (1 to 5; seed, seed and 1, ..): 0 the fewest PLACES OVER then, 1 the most, 2 by how "
                + "many a NET is JOINED then.");
        Kit s = Kit.of(TWIN);
        for (int seeds = 1; seeds <= 5; seeds++) {
            span(s, -2, seeds);
            span(s, MOST - 1, seeds);
        }
        refuses(s, "span seeds", WRONG, v -> s.wires.span(1, v, 1, 0, 0, 0), 0, 6, -1, LEAST, MOST);
        refuses(s, "span many", WRONG, v -> s.wires.span(1, 1, v, 0, 0, 0), 0, 41, -1, LEAST, MOST);
        refuses(s, "span q", WRONG, v -> s.wires.span(1, 1, 1, v, 0, 0), -1, 17, LEAST, MOST);

        Kit.says("(NoSuchElementException: also for 0, 1.)");
        refuses(s, "span 0", NO_SUCH, n -> s.wires.span(1, 1, 1, 0, 0, n), -1, 2, LEAST, MOST);
        refuses(s, "span 1", NO_SUCH, n -> s.wires.span(1, 1, 1, 0, 1, n), -1, 2, LEAST, MOST);
        refuses(s, "span 2", NO_SUCH, n -> s.wires.span(1, 1, 1, 0, 2, n), -1, 2, LEAST, MOST);
        Kit.due("no nets: no answer", NO_SUCH, () -> new Kit().wires.span(1, 1, 1, 0, 0, 0));
    }

    private static void span(Kit s, int seed, int seeds) {
        int fewest = 100;
        int most = -1;
        int joined = 0;
        for (int i = 0; i < seeds; i++) {
            int over = s.wires.season(seed + i, 4, 2, 0);
            fewest = Math.min(fewest, over);
            most = Math.max(most, over);
            joined += s.wires.season(seed + i, 4, 2, 1) >> 1 & 1;
        }
        int[] due = {fewest, most, joined};
        rows("span of " + seeds + " from " + seed, due, w -> s.wires.span(seed, seeds, 4, 2, w, 1));
    }

    private static void images() {
        Kit.says("An IMAGE of all that WORK changes, and of WORKS that can be undone: how many there are; -1: there are "
                + "3.");
        Kit k = kit("wall 2 2;" + DETOUR);
        String[] pictures = new String[3];
        String[] works = {"round;", "block 2 2;crit 0 7;round;", "rip 1;block 0 2;ease 1;"};
        for (int i = 0; i < 3; i++) {
            k.work(works[i]);
            pictures[i] = k.state();
            int due = i + 1;
            Kit.due("image " + i, due, () -> k.wires.image());
        }
        Kit.due("there are 3", -1, () -> k.wires.image());
        Kit.due("still 3", 3, () -> k.wires.count(0));
        Kit.same("nothing is changed by it", pictures[2], k.state());

        Kit.says("All that is as in the latest IMAGE, which is gone: how many are left; -1: there is none.");
        k.wires.undo();
        k.wires.undo();
        k.work("rip 0;");
        for (int i = 2; i >= 0; i--) {
            int left = i;
            Kit.due("restore " + i, left, () -> k.wires.restore());
            Kit.same("as in image " + i, pictures[i], k.state());
            Kit.due("works of image " + i, left + 1, () -> k.wires.count(2));
        }
        Kit.due("there is none", -1, () -> k.wires.restore());
        Kit.same("nothing is changed by it", pictures[0], k.state());
        Kit.due("its work is undone", 0, () -> k.wires.undo());
        Kit.due("to the begin", 0, () -> k.wires.told(3));
        worksOfImages();
    }

    private static void worksOfImages() {
        Kit k = kit(CROSS);
        String begin = k.state();
        k.work("lay 0;");
        String one = k.state();
        k.work("lay 1;");
        String two = k.state();
        k.wires.image();
        k.wires.image();
        for (int i = 0; i < 2; i++) {
            k.wires.undo();
            k.wires.undo();
            k.work("crit 0 9;");
            k.work("crit 1 9;");
            k.work("rip 0;");
            int left = 1 - i;
            Kit.due("restore", left, () -> k.wires.restore());
            Kit.due("its two works", 2, () -> k.wires.count(2));
            Kit.same("as in the image", two, k.state());
        }
        k.wires.undo();
        Kit.same("behind one undo", one, k.state());
        k.wires.undo();
        Kit.same("behind two", begin, k.state());
        Kit full = kit(DETOUR);
        for (int i = 0; i < 16; i++) {
            full.work("round;");
        }
        full.wires.image();
        for (int i = 0; i < 16; i++) {
            full.wires.undo();
        }
        Kit.due("room", 1, () -> full.work("rip 0;lay 0;"));
        Kit.due("restore", 0, () -> full.wires.restore());
        Kit.due("16 works again", -20, () -> full.work("round;"));
        for (int i = 15; i >= 0; i--) {
            int left = i;
            Kit.due("undo", left, () -> full.wires.undo());
            Kit.due("the round", left, () -> full.wires.told(3));
        }
        Kit law = kit(DETOUR);
        law.wires.image();
        law.law("9");
        law.book("0 0 0;");
        law.feed("x");
        law.wires.restore();
        Kit.due("work changes no law", 9, () -> law.wires.cost(0, 0, 0));
        Kit.due("nor a book", 1, () -> law.wires.told(10));
        Kit.due("nor the tape", 20, () -> law.wires.count(1));
    }

    private static void counts() {
        Kit.says("How many calls were refused: 0 NoSuchElementException, 1 IllegalArgumentException; NONE for others.");
        Kit k = kit(CROSS, "round;");
        rows("none", new int[] {0, 0, -1}, k.wires::status);
        Kit.due("no such", NO_SUCH, () -> k.wires.dear(2));
        rows("one", new int[] {1, 0, -1}, k.wires::status);
        Kit.due("wrong", WRONG, () -> k.wires.told(13));
        Kit.due("wrong", WRONG, () -> k.wires.board(1));
        rows("one and two", new int[] {1, 2, -1}, k.wires::status);
        Kit.due("others", -1, () -> k.wires.status(-1));
        Kit.due("others", -1, () -> k.wires.status(LEAST));
        Kit.due("others", -1, () -> k.wires.status(MOST));
        Kit.due("others", -1, () -> k.wires.count(9));
        Kit.due("a fault", -9, () -> k.law("x"));
        Kit.due("a refused step", 0, () -> k.work("crit 0 0;"));
        Kit.due("no image", -1, () -> k.wires.restore());
        rows("these were not refused", new int[] {1, 2, -1}, k.wires::status);

        Kit.says("(No IMAGE keeps it.)");
        k.wires.image();
        Kit.due("no such", NO_SUCH, () -> k.wires.dear(2));
        Kit.due("wrong", WRONG, () -> k.wires.told(13));
        k.wires.restore();
        rows("behind restore()", new int[] {2, 3, -1}, k.wires::status);
        k.wires.undo();
        rows("behind undo()", new int[] {2, 3, -1}, k.wires::status);
        k.board("");
        rows("behind board()", new int[] {2, 3, -1}, k.wires::status);

        Kit.says("0 IMAGES, 1 bytes of the TAPE, 2 WORKS that can be undone; NONE for others.");
        Kit c = new Kit();
        rows("at first", new int[] {0, 0, 0, -1}, c.wires::count);
        c.work("");
        c.work("round;");
        c.wires.image();
        c.feed("x".repeat(21));
        rows("one image, 40 bytes, two works", new int[] {1, 40, 2, -1}, c.wires::count);
        c.wires.undo();
        rows("one work", new int[] {1, 40, 1, -1}, c.wires::count);
        c.wires.restore();
        rows("as in the image", new int[] {0, 40, 2, -1}, c.wires::count);
        Kit.due("others", -1, () -> c.wires.count(-1));
        Kit.due("others", -1, () -> c.wires.count(LEAST));
        Kit.due("others", -1, () -> c.wires.count(MOST));
    }

    private static void calls() {
        Kit.says("An object is used for at most 512 calls after it has been made;");
        Kit k = new Kit();
        for (int i = 1; i <= 255; i++) {
            k.wires.image();
            k.wires.restore();
        }
        Kit.due("call 511", 20, () -> k.wires.feed(0, 0, 0, 0, 0));
        Kit.due("call 512", 20, () -> k.wires.count(1));
    }

    static void all() {
        tape();
        boards();
        laws();
        works();
        books();
        undone();
        told();
        nets();
        places();
        would();
        ways();
        ahead();
        costly();
        most();
        seasons();
        images();
        counts();
        calls();
    }
}
