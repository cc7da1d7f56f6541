import java.util.ArrayList;
import java.util.List;

/** The terms under ==== 3, sentence by sentence: what is asked is done in earnest on another object beside it. */
final class AskedSentences {
    private static final String CROSS =
            "size 3 3;net 0 1;net 0 9;pin 0 0 1;pin 0 2 1;pin 1 1 0;pin 1 1 2;";
    private static final String DETOUR = "size 3 3;net 0 9;net 0 9;pin 0 0 0;pin 0 2 0;pin 1 1 0;";
    private static final String PARTED = "size 3 2;wall 1 0;wall 1 1;net 0 9;pin 0 0 0;pin 0 2 0;pin 0 0 1;";
    /** Four nets, one of them without pins, in a narrow room. */
    private static final String NARROW = "size 3 3;wide 1 1 2;gain 2;net 2 2;net 9 3;net 0 9;net 5 0;"
            + "pin 0 0 0;pin 0 2 2;pin 1 2 0;pin 1 0 2;pin 1 1 0;pin 2 0 1;pin 2 2 1;";
    private static final String SOUTHWARD = "1 + col % 2 * (2 - row) * 99";

    private static Kit kit(String board, String... works) {
        Kit k = Kit.of(board);
        for (String work : works) {
            k.work(work);
        }
        return k;
    }

    private static int histories(Kit k) {
        int sum = 0;
        for (int y = 0; y < k.wires.told(1); y++) {
            for (int x = 0; x < k.wires.told(0); x++) {
                sum += k.wires.place(x, y, 2);
            }
        }
        return sum;
    }

    private static void rounds(String board) {
        Kit asked = kit(board);
        Kit done = kit(board);
        for (int n = 0; n <= 12; n++) {
            int rounds = n;
            Kit.due("over in " + n, done.wires.told(5), () -> asked.wires.ahead(rounds, 0));
            Kit.due("joined in " + n, done.wires.told(4), () -> asked.wires.ahead(rounds, 1));
            Kit.due("places in " + n, done.wires.told(8), () -> asked.wires.ahead(rounds, 2));
            Kit.due("histories in " + n, histories(done), () -> asked.wires.ahead(rounds, 3));
            done.work("round;");
        }
    }

    private static void nothingChanged() {
        Kit.says("Asked, nothing stays changed; rounds go by as by round (beyond ROUND 400, too).");
        Kit k = kit(NARROW, "round;round;", "crit 0 1;rip 3;");
        k.book("1 1 2;");
        k.wires.image();
        String before = k.print();
        Kit.due("asked all", 0, () -> askAll(k) * 0);
        Kit.same("the state", before, k.print());
        Kit.due("works to undo", 1, () -> k.wires.undo());
        rounds(CROSS);
        rounds(DETOUR);
        rounds(NARROW);
        String four = "again 40[round;round;round;round;];";
        Kit late = kit(CROSS.replace("net 0 9", "net 9 9") + "wall 0 0;wall 2 0;wall 0 2;wall 2 2;", four, four, four);
        Kit.due("round 400", 400, () -> late.wires.told(3));
        Kit.due("the middle's history", 400, () -> late.wires.place(1, 1, 2));
        Kit.due("in one round more", 401, () -> late.wires.ahead(1, 3));
        Kit.due("in forty more", 440, () -> late.wires.ahead(40, 3));
        Kit.due("asked only", 400, () -> late.wires.told(3));
    }

    private static int askAll(Kit k) {
        int sum = k.wires.settled() + k.wires.jam(1) + k.wires.fits(0) + k.wires.look(1) + k.wires.crowd(0);
        for (int what = 0; what < 4; what++) {
            sum += k.wires.ahead(7, what) + k.wires.season(5, 20, 9, what);
        }
        sum += k.wires.span(9, 5, 20, 9, 0, 0) + k.wires.span(9, 5, 20, 9, 2, 1) + k.wires.tight(0);
        for (int net = 0; net < 4; net++) {
            sum += k.wires.fewest(net) + k.wires.dist(net, 2, 1) + k.wires.spared(net, 2, 1) + k.wires.shed(net);
            sum += k.wires.dear(net) + k.wires.meet(net, 0) + k.wires.cost(net, 1, 2) + k.wires.net(net, 7);
        }
        return sum + k.wires.would(1, 1, 1, 1, 1, 1, 1, 1);
    }

    private static void settling() {
        Kit.says("SETTLED: behind how many rounds (0 to 40) ALL IS DONE for the first time; NONE.");
        Kit.due("no nets", 0, () -> new Kit().wires.settled());
        Kit.due("done already", 0, () -> kit(DETOUR, "lay 1;lay 0;").wires.settled());
        Kit.due("in one round", 1, () -> kit("net 0 0;pin 0 0 0;").wires.settled());
        Kit.due("in two rounds", 2, () -> kit(DETOUR).wires.settled());
        Kit forty = kit(DETOUR);
        forty.law("1 + over * most[0, round - 38] * 5");
        Kit.due("in forty rounds", 40, () -> forty.wires.settled());
        Kit more = kit(DETOUR);
        more.law("1 + over * most[0, round - 39] * 5");
        Kit.due("in forty-one rounds", -1, () -> more.wires.settled());
        more.work("round;");
        Kit.due("one of them has gone by", 40, () -> more.wires.settled());
        Kit.due("never joined", -1, () -> kit(PARTED).wires.settled());

        Kit.says("JAM: PLACES that are OVER behind 40 rounds.");
        Kit.due("free behind 40, not behind 39", 0, () -> forty.wires.jam(0));
        Kit.due("over behind 39", 1, () -> forty.wires.ahead(39, 0));
        Kit.due("over behind 40", 1, () -> more.wires.ahead(39, 0));
        more.wires.undo();
        Kit.due("over behind 40, not behind 41", 2, () -> more.wires.jam(0));
        Kit.due("another row", 0, () -> more.wires.jam(1));
        Kit wide = kit("size 8 2;net 0 9;net 0 9;pin 0 0 1;pin 0 7 1;pin 1 7 1;pin 1 0 1;wall 0 0;wall 7 0;");
        Kit.due("the pins and what is beside them", 1 + 2 + 64 + 128, () -> wide.wires.jam(1) & (1 + 2 + 64 + 128));
        Kit.due("no nets", 0, () -> new Kit().wires.jam(3));
    }

    private static void delays() {
        Kit.says("DELAY of a NET: the most steps by PARENTS from any of its pins that its TREE has to the ROOT "
                + "(0 without).");
        Kit.due("no pins", 0, () -> kit("net 0 9;").wires.net(0, 5));
        Kit.due("an empty tree", 0, () -> kit(CROSS).wires.net(0, 5));
        Kit.due("the root alone", 0, () -> kit("net 0 9;pin 0 1 1;", "lay 0;").wires.net(0, 5));
        Kit.due("of the pins that it has", 1, () -> kit(PARTED, "lay 0;").wires.net(0, 5));
        Kit.due("the farthest pin", 14, () -> kit("size 8 8;net 0 9;pin 0 0 0;pin 0 7 7;pin 0 1 0;", "lay 0;").wires.net(0, 5));
        Kit torn = kit("size 3 3;net 0 9;net 0 9;pin 0 0 0;pin 0 2 0;pin 1 2 1;");
        torn.law(SOUTHWARD);
        torn.work("lay 0;lay 1;");
        torn.law("1 + over * 50");
        torn.work("round;");
        Kit.due("not of places behind which no pin is", 2, () -> torn.wires.net(0, 5));
        Kit.due("though these are farther", 4, () -> torn.wires.net(0, 9));

        Kit.says("LATE: NETS that are not JOINED, or whose DELAY is more than LIMIT.");
        Kit k = kit("size 3 3;net 0 2;net 0 1;net 0 60;net 0 0;net 0 0;pin 0 0 0;pin 0 2 0;pin 1 0 1;pin 1 2 1;"
                + "pin 2 0 2;pin 2 2 2;pin 3 1 1;");
        Kit.due("none is joined but the one without pins", 15, () -> k.wires.told(7));
        k.work("lay 0;lay 1;lay 3;");
        Kit.due("2 of 2, 2 of 1, not joined, 0 of 0, without pins", 2 + 4, () -> k.wires.told(7));
        k.work("lay 2;");
        Kit.due("2 of 60", 2, () -> k.wires.told(7));
        Kit.due("no nets", 0, () -> new Kit().wires.told(7));
    }

    private static void fewest() {
        Kit.says("FEWEST of a NET: how few PLACES without walls (by now) hang together, neighbour by neighbour, and have "
                + "all of its pins (0 without pins; USES and COSTS all the same); NONE.");
        Kit k = Kit.of("size 4 4;wall 1 0;net 0 9;net 0 9;net 0 9;net 0 9;pin 1 2 2;pin 2 0 0;pin 2 2 0;"
                + "pin 3 0 0;pin 3 3 3;pin 3 3 0;pin 3 0 3;");
        Kit.due("no pins", 0, () -> k.wires.fewest(0));
        Kit.due("one pin", 1, () -> k.wires.fewest(1));
        Kit.due("around the wall", 5, () -> k.wires.fewest(2));
        // Two columns and a row across them (or two rows and a column).
        Kit.due("four corners", 10, () -> k.wires.fewest(3));
        k.work("block 1 0;");
        Kit.due("the wall is gone by now", 3, () -> k.wires.fewest(2));
        k.work("block 1 0;block 0 1;");
        Kit.due("walled in", -1, () -> k.wires.fewest(2));
        Kit.due("one of four walled in", -1, () -> k.wires.fewest(3));
        Kit.due("one pin is all the same", 1, () -> k.wires.fewest(1));
        k.wires.undo();
        k.law("1 + col * 99");
        k.work("round;round;round;");
        Kit.due("uses and costs all the same", 3, () -> k.wires.fewest(2));
        Kit.due("four corners, used", 10, () -> k.wires.fewest(3));
        // The nearest pins first would take 10: the way from 0, 1 to 4, 1 does not lead by 2, 3.
        Kit three = Kit.of("size 5 5;net 0 9;pin 0 0 1;pin 0 4 1;pin 0 2 3;");
        Kit.due("one fork", 7, () -> three.wires.fewest(0));
        Kit snake = Kit.of("size 3 5;wall 0 1;wall 1 1;wall 1 3;wall 2 3;net 0 9;pin 0 0 0;pin 0 2 4;");
        Kit.due("a winding way", 11, () -> snake.wires.fewest(0));
        Kit apart = Kit.of("size 2 2;wall 1 0;wall 0 1;net 0 9;pin 0 0 0;pin 0 1 1;");
        Kit.due("corners do not hang together", -1, () -> apart.wires.fewest(0));

        Kit.says("SPARED of a NET and a PLACE: of all PLACES of less DIST from its TREE than that one how many have, with "
                + "the steps east or west and north or south to that one besides, not less than its DIST.");
        Kit s = kit("size 3 2;net 0 9;pin 0 0 0;", "lay 0;");
        s.law("1");
        Kit.due("just its dist is not less", 3, () -> s.wires.spared(0, 2, 0));
        s.law("2");
        Kit.due("one less is less", 1, () -> s.wires.spared(0, 2, 0));
        Kit.due("in the tree", 0, () -> s.wires.spared(0, 0, 0));
        s.law("1 + row * 4 + col");
        // 0, 0: 0 and 3; 1, 0: 2 and 2; 2, 0: 5 and 1; 0, 1: 5 and 2; 1, 1: 8 and 1; not less than 12
        Kit.due("none", 0, () -> s.wires.spared(0, 2, 1));
        Kit.due("its dist", 12, () -> s.wires.dist(0, 2, 1));
        s.work("block 1 0;");
        // now 2, 1 by 0, 1 and 1, 1: 5, 11, 18; 2, 0 is farther
        Kit.due("walls have no dist", 0, () -> s.wires.spared(0, 2, 1));
    }

    /** What each pair would leave, by doing it: the answers due for fits and look come from that alone. */
    private static void fitting(String board, String work, String book, int[][] lines) {
        Kit asked = kit(board, work);
        asked.book(book);
        int columns = asked.wires.told(0);
        int rows = asked.wires.told(1);
        List<int[]> left = new ArrayList<>();
        int first = -1;
        for (int pair = 0; pair < 2 * asked.wires.told(2); pair++) {
            Kit done = kit(board, work);
            int net = pair / 2;
            boolean can = done.work((pair % 2 == 0 ? "rip " : "lay ") + net + ";") == 1;
            for (int[] line : lines) {
                can = can && done.wires.place(line[0], line[1], 1) == line[2];
            }
            if (can) {
                int[] uses = new int[rows * columns];
                for (int p = 0; p < uses.length; p++) {
                    uses[p] = done.wires.place(p % columns, p / columns, 1);
                }
                left.add(uses);
                first = first < 0 ? 10 * net + pair % 2 : first;
            }
        }
        int firstPair = first;
        Kit.due("fits 0 by " + book, left.size(), () -> asked.wires.fits(0));
        Kit.due("fits 1 by " + book, firstPair, () -> asked.wires.fits(1));
        looking(asked, left, lines, columns, rows);
    }

    private static void looking(Kit asked, List<int[]> left, int[][] lines, int columns, int rows) {
        int best = -1;
        int least = -1;
        for (int p = 0; p < rows * columns; p++) {
            boolean free = true;
            for (int[] line : lines) {
                free = free && (line[0] != p % columns || line[1] != p / columns);
            }
            int worst = 0;
            for (int many = 0; many <= 6; many++) {
                int alike = 0;
                for (int[] uses : left) {
                    alike += uses[p] == many ? 1 : 0;
                }
                worst = Math.max(worst, alike);
            }
            if (free && (best < 0 || worst < least)) {
                best = 10 * (p / columns) + p % columns;
                least = worst;
            }
        }
        int place = best;
        int many = least;
        Kit.due("look 0", place, () -> asked.wires.look(0));
        Kit.due("look 1", many, () -> asked.wires.look(1));
    }

    private static void pairs() {
        Kit.says("FITS by BOOK: pairs of a NET and a deed (0 rip, 1 lay) that can be done now and behind which all lines "
                + "would be right: how many, the first (10 times the NET, and the deed).");
        Kit k = kit(NARROW, "lay 1;");
        Kit.due("rip 1, lay 0, 1, 2; neither for the one without pins", 4, () -> k.wires.fits(0));
        Kit.due("the first is lay 0", 1, () -> k.wires.fits(1));
        k.book("2 0 0;");
        Kit.due("only rip 1 frees the root of net 1", 1, () -> k.wires.fits(0));
        Kit.due("rip 1", 10, () -> k.wires.fits(1));
        k.book("2 0 0;0 0 1;");
        Kit.due("one line right is not enough", 0, () -> k.wires.fits(0));
        Kit.due("no first", -1, () -> k.wires.fits(1));
        k.book("0 1 2;2 1 1;");
        Kit.due("lay 2", 21, () -> k.wires.fits(1));
        Kit.due("without nets", 0, () -> new Kit().wires.fits(0));
        Kit.due("without nets", -1, () -> new Kit().wires.fits(1));

        Kit.says("LOOK: the PLACE in no line by whose USES, whatever they are then, fewest such pairs are left at the "
                + "worst (0, if none is right), of these the first (by Y, then X).");
        Kit.due("without nets the first place", 0, () -> new Kit().wires.look(0));
        Kit.due("without nets none is right", 0, () -> new Kit().wires.look(1));
        fitting(NARROW, "", "", new int[0][]);
        fitting(NARROW, "lay 0;", "", new int[0][]);
        fitting(NARROW, "lay 1;lay 2;", "", new int[0][]);
        fitting(NARROW, "round;", "", new int[0][]);
        fitting(NARROW, "round;", "1 1 2;", new int[][] {{1, 1, 2}});
        fitting(NARROW, "round;", "1 1 3;", new int[][] {{1, 1, 3}});
        fitting(NARROW, "round;round;", "0 0 1;1 0 1;", new int[][] {{0, 0, 1}, {1, 0, 1}});
        fitting(CROSS, "round;", "0 0 0;1 0 1;", new int[][] {{0, 0, 0}, {1, 0, 1}});
        fitting(CROSS, "round;round;", "1 0 6;", new int[][] {{1, 0, 6}});
        fitting("wall 0 0;net 0 0;pin 0 1 0;", "", "", new int[0][]);
        fitting("size 2 2;net 0 0;pin 0 0 0;", "", "0 0 1;1 0 0;0 1 0;1 1 0;",
                new int[][] {{0, 0, 1}, {1, 0, 0}, {0, 1, 0}, {1, 1, 0}});
    }

    /** What the season would do, as texts of work; drawn with whole numbers beyond 32 bits, so that nothing wraps unseen. */
    private static List<String> deeds(int seed, int many, int q, int nets) {
        Drawer drawer = new Drawer(seed);
        List<String> works = new ArrayList<>();
        StringBuilder text = new StringBuilder();
        for (int i = 0; i < many; i++) {
            if (nets > 0) {
                int net = drawer.next(nets);
                int deed = drawer.next(8);
                String step = deed == 0 ? "rip " + net : deed <= 2 ? "lay " + net
                        : deed == 3 ? "crit " + net + " " + drawer.next(10) : "round";
                text.append(step).append(';');
            }
            if (drawer.next(16) < q) {
                text.append("ease 1;");
            }
            if (text.length() > 130) {
                works.add(text.toString());
                text.setLength(0);
            }
        }
        works.add(text.toString());
        return works;
    }

    private static final class Drawer {
        private long seed;

        Drawer(int seed) {
            this.seed = seed & 0xffffffffL;
        }

        int next(int by) {
            seed = (seed * 1_103_515_245L + 12_345L) % 4_294_967_296L;
            return (int) (seed / 65_536L % 32_768L) % by;
        }
    }

    private static void season(String board, String work, int seed, int many, int q) {
        Kit asked = kit(board, work);
        Kit done = kit(board, work);
        for (String text : deeds(seed, many, q, done.wires.told(2))) {
            done.work(text);
        }
        int[] due = {done.wires.told(5), done.wires.told(4), done.wires.told(3), done.wires.told(8)};
        for (int what = 0; what < 4; what++) {
            int w = what;
            Kit.due("season " + seed + " " + many + " " + q + " " + what, due[what], () -> asked.wires.season(seed, many, q, w));
        }
    }

    private static void seasons() {
        Kit.says("A SEASON by a SEED: so many times: are there NETS: DRAWN by how many NETS, N: is DRAWN by 8 0: rip N; "
                + "1, 2: lay N; 3: crit N of DRAWN by 10; else round; then, with NETS or without, is DRAWN by 16 below Q: "
                + "ease 1 (each, if it can be done; rounds beyond ROUND 400, too).");
        for (int seed = 1; seed <= 40; seed++) {
            season(NARROW, "", seed * 977, seed, seed % 17);
            season(CROSS, "round;round;", -seed, 41 - seed, 16 - seed % 17);
        }
        season(NARROW, "round;", 7, 1, 0);
        season(NARROW, "round;", 7, 40, 16);
        season("net 0 0;", "", 3, 40, 5);
        season("", "", 3, 40, 5);
        String four = "again 40[round;round;round;round;];";
        Kit late = kit(CROSS, four, four, four);
        Kit.due("round 400", 400, () -> late.wires.told(3));
        int rounds = 0;
        for (String text : deeds(11, 40, 0, 2)) {
            rounds += text.split("round", -1).length - 1;
        }
        Kit.due("rounds go on", 400 + rounds, () -> late.wires.season(11, 40, 0, 2));
        Kit.due("asked only", 400, () -> late.wires.told(3));

        Kit.says("What is DRAWN: the SEED (32 bits) becomes itself times 1,103,515,245, and 12,345 (it wraps); its bits "
                + "16 to 30, what is left of them.");
        // The seed 1 draws 16838, 5758, 10113, 17515, 31051, 5627, 23010: a round, then crit, then a round, ..
        Kit two = kit(CROSS);
        int[] due = {1, 1, 2, 3, 3, 4, 5};
        for (int i = 0; i < due.length; i++) {
            int many = i + 1;
            Kit.due("rounds in " + many, due[i], () -> two.wires.season(1, many, 0, 2));
        }
        for (int seed : new int[] {0, -1, Integer.MIN_VALUE, Integer.MAX_VALUE, 65_536, -65_536, 0x40000000}) {
            season(NARROW, "", seed, 40, 8);
            season(CROSS, "", seed, 39, 3);
        }
    }

    static void all() {
        nothingChanged();
        settling();
        delays();
        fewest();
        pairs();
        seasons();
    }
}
