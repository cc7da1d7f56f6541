/** Sentences once more where rows begin and end: the first and the last place, net, pin, byte, and the board before. */
final class CornerSentences {
    private static Kit kit(String board, String... works) {
        Kit k = Kit.of(board);
        for (String work : works) {
            k.work(work);
        }
        return k;
    }

    private interface Call {
        int of(int value);
    }

    private static void rows(String what, int[] due, Call call) {
        for (int i = 0; i < due.length; i++) {
            int at = i;
            Kit.due(what + " " + i, due[i], () -> call.of(at));
        }
    }

    private static void firstPlace() {
        Kit k = kit("size 3 2;net 0 9;net 0 9;pin 0 2 0;pin 0 0 0;pin 1 0 0;", "lay 0;lay 1;");
        Kit.says("4 how many of these are OVER");
        Kit.due("over at 0, 0", 1, () -> k.wires.net(0, 4));
        Kit.due("of all", 1, () -> k.wires.told(5));
        Kit.says("7 leaves (PLACES of its TREE that are nobody's PARENT)");
        Kit.due("0, 0 is the one leaf", 1, () -> k.wires.net(0, 7));
        Kit.says("9 the most steps by PARENTS from any of its PLACES to the ROOT");
        Kit.due("from 0, 0", 2, () -> k.wires.net(0, 9));
        Kit.due("and no fork", 0, () -> k.wires.net(0, 8));
        Kit.says("8 forks (PARENTS of two or more)");
        Kit fork = kit("size 3 2;net 0 9;pin 0 0 0;pin 0 2 0;pin 0 0 1;", "lay 0;");
        Kit.due("0, 0 is a fork", 1, () -> fork.wires.net(0, 8));
        Kit.due("with two leaves", 2, () -> fork.wires.net(0, 7));
        Kit.due("a fork still", 1, () -> fork.wires.net(0, 8));
        Kit.says("4 NETS whose TREES have it (bits)");
        Kit.due("both", 3, () -> k.wires.place(0, 0, 4));
        Kit.due("net 0", 1, () -> k.wires.place(1, 0, 4));
        Kit.says("What all PLACES of a NET's TREE but the ROOT COST it now, together.");
        Kit.due("0, 0 and 1, 0", 4 + 1, () -> k.wires.dear(0));
        Kit.says("How many PLACES the TREES of two NETS have in common");
        Kit.due("0, 0", 1, () -> k.wires.meet(0, 1));
        Kit.says("What SHEDS would leave of a NET's TREE now");
        Kit.due("all but 0, 0", 2, () -> k.wires.shed(0));
        Kit.says("12 how many PLACES have walls.");
        Kit.due("at 0, 0", 1, () -> Kit.of("wall 0 0;").wires.told(12));
        Kit.due("at both ends", 2, () -> Kit.of("size 8 8;wall 0 0;wall 7 7;").wires.told(12));
        Kit.says("3 HISTORIES of all PLACES together.");
        Kit.due("at 0, 0 and at 7, 7", 2, () -> Kit.of("size 8 8;net 0 0;net 0 0;net 0 0;net 0 0;"
                + "pin 0 0 0;pin 1 0 0;pin 2 7 7;pin 3 7 7;").wires.ahead(1, 3));
        Kit.says("of its TREE stay the ROOT");
        Kit shed = kit("size 3 2;net 0 9;net 0 9;pin 0 1 0;pin 0 0 1;pin 1 0 0;");
        shed.law("1 + row * col * 50");
        shed.work("lay 0;lay 1;");
        Kit.due("by 0, 0", 3, () -> shed.wires.tree(0, 0));
        shed.law("1 + over * 50");
        shed.work("round;");
        Kit.due("0, 0 is shed", 2, () -> shed.wires.tree(0, 0));
        Kit.due("by 1, 1 instead", 3, () -> shed.wires.tree(0, 1));
    }

    private static void firstPlaceJoined() {
        Kit.says("FEWEST of a NET: how few PLACES without walls (by now) hang together, neighbour by neighbour, and have "
                + "all of its pins");
        Kit second = Kit.of("size 3 2;net 0 9;pin 0 2 0;pin 0 0 0;pin 0 2 1;");
        Kit.due("0, 0 is the second pin", 4, () -> second.wires.fewest(0));
        Kit meet = Kit.of("size 3 2;wall 1 1;net 0 9;pin 0 0 0;pin 0 1 0;pin 0 0 1;");
        Kit.due("they meet at 0, 0", 3, () -> meet.wires.fewest(0));
        Kit last = Kit.of("size 8 8;net 0 9;pin 0 7 7;pin 0 6 7;pin 0 7 6;pin 0 0 0;");
        Kit.due("they meet at 7, 7", 16, () -> last.wires.fewest(0));
    }

    /** Net i lies in row i, the last one in row 7, with pins at 0, 7, 2, 5. */
    private static String sixRows() {
        StringBuilder s = new StringBuilder("size 8 8;");
        for (int i = 0; i < 6; i++) {
            s.append("net ").append(i).append(' ').append(20 - i).append(';');
            for (int x : new int[] {0, 7, 2, 5}) {
                s.append("pin ").append(i).append(' ').append(x).append(' ').append(i == 5 ? 7 : i).append(';');
            }
        }
        return s.toString();
    }

    private static void lastNet() {
        Kit k = kit(sixRows(), "lay 0;lay 1;lay 2;lay 3;lay 4;lay 5;");
        Kit.says("NETS, numbered from 0 on, 6 at most");
        rows("told", new int[] {8, 8, 6, 0, 63, 0, 1, 0, 48, 1, 0, 0, 0}, k.wires::told);
        rows("net 5", new int[] {5, 15, 4, 8, 0, 7, 8, 1, 0, 7, 1}, w -> k.wires.net(5, w));
        rows("7, 7", new int[] {1, 1, 0, 0, 32, 32, 0}, w -> k.wires.place(7, 7, w));
        Kit.due("cost", 1, () -> k.wires.cost(5, 7, 7));
        Kit.due("parent", 3, () -> k.wires.parent(5, 7, 7));
        Kit.due("root", 4, () -> k.wires.parent(5, 0, 7));
        Kit.due("dist", 2 * 1 + 5 * 2, () -> k.wires.dist(5, 0, 0));
        Kit.due("in the tree", 0, () -> k.wires.spared(5, 7, 7));
        Kit.due("fewest", 8, () -> k.wires.fewest(5));
        Kit.due("tree", 255, () -> k.wires.tree(5, 7));
        Kit.due("no tree", 0, () -> k.wires.tree(5, 6));
        Kit.due("meet", 8, () -> k.wires.meet(5, 5));
        Kit.due("do not meet", 0, () -> k.wires.meet(4, 5));
        Kit.due("dear", 7, () -> k.wires.dear(5));
        Kit.due("shed", 8, () -> k.wires.shed(5));
        Kit.due("settled", 0, () -> k.wires.settled());
        Kit.due("jam", 0, () -> k.wires.jam(7));
        Kit.due("tight", 5, () -> k.wires.tight(0));
        Kit.due("how much", 8, () -> k.wires.tight(1));
        Kit.due("all twelve fit", 12, () -> k.wires.fits(0));
        k.book("7 7 0;");
        Kit.due("rip 5 alone", 50, () -> k.wires.fits(1));
        k.book("7 7 1;0 0 1;0 1 1;0 2 1;0 3 1;0 4 1;");
        Kit.due("the six lays", 6, () -> k.wires.fits(0));
        Kit.due("0 by 10, and 1", 1, () -> k.wires.fits(1));
        Kit.due("joined in a season", k.wires.season(5, 40, 3, 1) >> 5 & 1, () -> k.wires.span(5, 1, 40, 3, 2, 5));
        k.work("rip 5;crit 5 0;");
        Kit.due("torn up", 31, () -> k.wires.told(4));
        Kit.due("late", 32, () -> k.wires.told(7));
        Kit.due("the next one is tight", 4, () -> k.wires.tight(0));
        Kit.due("its crit", 0, () -> k.wires.net(5, 0));

        Kit.says("The PLACES of a row y that a NET's TREE has (bits, by x).");
        Kit corner = kit("size 8 2;net 0 9;pin 0 0 1;pin 0 0 0;pin 0 7 0;", "lay 0;");
        Kit.due("eight bits", 255, () -> corner.wires.tree(0, 0));
        Kit.due("one bit", 1, () -> corner.wires.tree(0, 1));
    }

    private static void sixUses() {
        Kit.says("by whose USES, whatever they are then, fewest such pairs are left at the worst");
        StringBuilder s = new StringBuilder("size 2 2;");
        for (int i = 0; i < 6; i++) {
            s.append("net 0 0;pin ").append(i).append(" 0 1;");
        }
        Kit k = kit(s.toString(), "lay 0;lay 1;lay 2;lay 3;lay 4;lay 5;");
        Kit.due("six rips and six lays", 12, () -> k.wires.fits(0));
        Kit.due("five uses or six", 10, () -> k.wires.look(0));
        Kit.due("six are left", 6, () -> k.wires.look(1));
        Kit.due("the crowd", 10, () -> k.wires.crowd(0));
        Kit.due("of six", 6, () -> k.wires.crowd(1));
        Kit.due("of six", 6, () -> k.wires.place(0, 1, 1));
        Kit.due("all", 63, () -> k.wires.place(0, 1, 4));
        Kit.due("over", 5, () -> k.wires.place(0, 1, 6));
        Kit.due("jam", 1, () -> k.wires.jam(1));
        k.book("0 1 6;");
        Kit.due("six lays", 6, () -> k.wires.fits(0));
        k.book("0 1 5;");
        Kit.due("six rips", 6, () -> k.wires.fits(0));

        Kit.says("LOOK: 0 the PLACE (10 times y, and x), 1 how many are left at the worst;");
        for (int i = 0; i < 6; i++) {
            s.append("pin ").append(i).append(" 1 1;");
        }
        Kit pairs = kit(s.toString(), "lay 0;lay 1;lay 2;lay 3;lay 4;lay 5;");
        pairs.book("0 1 6;0 0 0;1 0 0;");
        Kit.due("the last place, six uses", 11, () -> pairs.wires.look(0));
        Kit.due("by them none is ruled out", 6, () -> pairs.wires.look(1));
        pairs.book("0 1 6;");
        Kit.due("all places alike", 0, () -> pairs.wires.look(0));
    }

    private static void tight() {
        Kit.says("of those that are JOINED and have pins (what 0), of alike ones the first");
        Kit first = kit("size 3 2;net 0 3;net 0 9;pin 0 0 0;pin 0 2 0;pin 1 0 1;pin 1 2 1;", "lay 0;lay 1;");
        Kit.due("net 0", 0, () -> first.wires.tight(0));
        Kit.due("1", 1, () -> first.wires.tight(1));
        Kit one = kit("net 0 5;pin 0 0 0;", "lay 0;");
        Kit.due("one pin is enough", 0, () -> one.wires.tight(0));
        Kit.due("all of its limit", 5, () -> one.wires.tight(1));
    }

    private static void far() {
        Kit.says("DIST of x, y from a NET's TREE;");
        Kit k = kit("size 8 2;wall 1 0;wall 1 1;net 0 9;pin 0 0 0;pin 0 2 0;", "lay 0;", "block 1 0;");
        Kit.due("the pin that it has not", 2, () -> k.wires.dist(0, 2, 0));
        Kit.due("farther than that pin", 7, () -> k.wires.dist(0, 7, 0));
        Kit.due("the farthest", 8, () -> k.wires.dist(0, 7, 1));
        Kit wide = kit("size 8 8;net 0 9;pin 0 3 3;", "lay 0;");
        for (int i = 0; i < 64; i++) {
            int x = i % 8;
            int y = i / 8;
            Kit.due("from 3, 3 to " + x + ", " + y, Math.abs(x - 3) + Math.abs(y - 3), () -> wide.wires.dist(0, x, y));
        }
        Kit.says("with the steps east or west and north or south to that one besides, not less than its DIST.");
        wide.law("2");
        // Of the 13 places at most two steps from 3, 3 these are spared not: itself, 3,4 and 3,5 (on the way there).
        Kit.due("to the south", 10, () -> wide.wires.spared(0, 3, 6));
        Kit.due("to the east", 10, () -> wide.wires.spared(0, 6, 3));
        Kit.due("to the north", 10, () -> wide.wires.spared(0, 3, 0));
        Kit.due("to the west", 10, () -> wide.wires.spared(0, 0, 3));
    }

    /** Dear and cheap places in turn, so that hardly any way is the straight one. */
    private static void rugged() {
        Kit.says("the least sum of COSTS of PLACES that one enters from the TREE on, itself, too, neighbour by neighbour, "
                + "no walls.");
        for (int more = 0; more < 20; more++) {
            int odd = more;
            Kit k = kit("size 8 8;wall 3 3;wall 4 3;wall 4 4;net 0 60;pin 0 " + more % 8 + " " + more / 8 + ";", "lay 0;");
            k.law("1 + (col * 37 + row * 59 + col * row * " + odd + ") * 17 % 101");
            int[] due = new int[64];
            java.util.Arrays.fill(due, -1);
            due[more] = 0;
            for (int turn = 0; turn < 64 * 64; turn++) {
                int x = turn % 8;
                int y = turn / 8 % 8;
                int price = 1 + (x * 37 + y * 59 + x * y * odd) * 17 % 101;
                boolean wall = y == 3 && (x == 3 || x == 4) || y == 4 && x == 4;
                int[] beside = {y > 0 ? due[8 * y + x - 8] : -1, x < 7 ? due[8 * y + x + 1] : -1,
                    y < 7 ? due[8 * y + x + 8] : -1, x > 0 ? due[8 * y + x - 1] : -1};
                for (int near : beside) {
                    if (!wall && near >= 0 && (due[8 * y + x] < 0 || near + price < due[8 * y + x])) {
                        due[8 * y + x] = near + price;
                    }
                }
            }
            rows("by odd " + odd, due, i -> k.wires.dist(0, i % 8, i / 8));
            for (int pin = more % 7; pin < 64; pin += 7) {
                if (due[pin] >= 0) {
                    laidAlong(more, pin, odd, due[pin]);
                }
            }
        }
    }

    /** What a tree of two pins costs is how far they are from one another. */
    private static void laidAlong(int root, int pin, int odd, int far) {
        Kit k = kit("size 8 8;wall 3 3;wall 4 3;wall 4 4;net 0 60;pin 0 " + root % 8 + " " + root / 8 + ";pin 0 "
                + pin % 8 + " " + pin / 8 + ";");
        k.law("1 + (col * 37 + row * 59 + col * row * " + odd + ") * 17 % 101");
        k.work("lay 0;");
        Kit.due("laid from " + root + " to " + pin + " by odd " + odd, far, () -> k.wires.dear(0));
    }

    private static void behindTheLastRound() {
        Kit.says("Asked, nothing stays changed; rounds go by as by round (beyond ROUND 400, too).");
        String four = "again 40[round;round;round;round;];";
        Kit k = kit("size 3 3;net 0 9;net 0 9;pin 0 0 0;pin 0 2 0;pin 1 1 0;");
        k.law("1 + over * most[0, round - 401] * 5");
        for (int i = 0; i < 3; i++) {
            k.work(four);
        }
        Kit.due("round 400", 400, () -> k.wires.told(3));
        Kit.due("shared still", 1, () -> k.wires.told(5));
        Kit.due("only round 402 makes it dear", 3, () -> k.wires.settled());
        Kit.due("behind two rounds", 1, () -> k.wires.ahead(2, 0));
        Kit.due("behind three", 0, () -> k.wires.ahead(3, 0));
        Kit.due("no jam", 0, () -> k.wires.jam(0));
        Kit.due("asked only", 400, () -> k.wires.told(3));
        Kit.due("and shared still", 1, () -> k.wires.told(5));
    }

    private static void spans() {
        Kit.says("Of so many SEEDS (1 to 5; seed, seed and 1, ..): 0 the fewest PLACES OVER then, 1 the most, 2 by how many "
                + "a NET is JOINED then.");
        Kit k = kit("size 3 3;net 0 1;net 0 9;pin 0 0 1;pin 0 2 1;pin 1 1 0;pin 1 1 2;");
        int[] over = new int[40];
        int[] joined = new int[40];
        for (int seed = 0; seed < 40; seed++) {
            over[seed] = k.wires.season(seed, 3, 2, 0);
            joined[seed] = k.wires.season(seed, 3, 2, 1) & 1;
        }
        int unlike = 0;
        int some = 0;
        for (int seed = 0; seed + 5 <= 40; seed++) {
            int[] due = {over[seed], over[seed], 0};
            for (int i = 0; i < 5; i++) {
                due[0] = Math.min(due[0], over[seed + i]);
                due[1] = Math.max(due[1], over[seed + i]);
                due[2] += joined[seed + i];
            }
            unlike += due[0] < due[1] ? 1 : 0;
            some += due[2] > 0 && due[2] < 5 ? 1 : 0;
            int first = seed;
            rows("span from " + seed, due, w -> k.wires.span(first, 5, 3, 2, w, 0));
        }
        int spread = unlike;
        int partly = some;
        Kit.due("fewest and most differ somewhere", 1, () -> spread > 0 ? 1 : 0);
        Kit.due("some seeds join it, some not", 1, () -> partly > 0 ? 1 : 0);
        Kit.due("once, Q 0", k.wires.season(3, 1, 0, 0), () -> k.wires.span(3, 1, 1, 0, 0, 1));
        Kit.due("40 times, Q 16", k.wires.season(3, 40, 16, 0), () -> k.wires.span(3, 1, 40, 16, 1, 1));
        Kit.due("none over at all", 0, () -> Kit.of("net 0 0;").wires.span(1, 5, 40, 0, 1, 0));
    }

    private static void bytesBehind() {
        Kit.says("The first n bytes of the TAPE (empty then) are the BOARD");
        lawOf("123+4", 1, 1, 1);
        lawOf("123+4", 2, 1, 12);
        lawOf("123+4", 4, -9, 4);
        lawOf("1 + pasts", 8, 1, 8);
        lawOf("1 + pasts", 7, -9, 4);
        lawOf("(1)", 2, -9, 2);
        Kit k = new Kit();
        k.feed("gain 77;");
        Kit.due("one digit, and no ;", -9, () -> k.wires.board(6));
        Kit.due("at the length", 6, () -> k.wires.fault());
        k.feed("gain 7;7");
        Kit.due("up to the ;", 0, () -> k.wires.board(7));
        k.feed("ease 1;ease 0;");
        Kit.due("the first step", 1, () -> k.wires.work(7));
        k.feed("0 0 0;9");
        Kit.due("the first line", 1, () -> k.wires.book(6));
        for (String end : new String[] {"gain", "gain 7", "gain ", "net 1 60"}) {
            String text = " ".repeat(600 - end.length()) + end;
            Kit full = new Kit();
            Kit.due("600 bytes that end with " + end, -9, () -> full.board(text));
            Kit.due("at the length", 600, () -> full.wires.fault());
        }
    }

    /** By past 7; a fault's place stands for a value. */
    private static void lawOf(String tape, int n, int answer, int due) {
        Kit k = new Kit();
        k.feed(tape);
        Kit.due(n + " bytes of " + tape, answer, () -> k.wires.law(n));
        Kit.due("by " + n + " bytes of " + tape, due,
                () -> answer == 1 ? k.wires.would(7, 0, 0, 0, 1, 0, 0, 0) : k.wires.fault());
    }

    private static void boardsInTurn() {
        Kit.says("4 and 4 without");
        Kit k = kit("size 7 8;gain 6;wall 1 1;wide 2 2 3;net 9 60;pin 0 3 3;pin 0 2 3;", "lay 0;");
        Kit.due("the next board", 0, () -> k.board(""));
        rows("told of it", new int[] {4, 4, 0, 0, 0, 0, 1, 0, 0, 1, 0, 0, 0}, k.wires::told);
        Kit.due("no width", 1, () -> k.wires.place(2, 2, 0));
        Kit.due("no pin", 0, () -> k.wires.place(3, 3, 5));
        Kit.due("no wall", 0, () -> k.wires.place(1, 1, 3));
        k.board("net 1 2;");
        Kit.due("a net without pins", 0, () -> k.wires.net(0, 2));
        Kit.due("none to lay", 0, () -> k.work("lay 0;"));
        k.board("size 8 8;wall 7 7;wall 0 0;");
        Kit.due("a board with a fault", -9, () -> k.board("wall 1 1;wall 2 2;x"));
        k.board("size 8 8;");
        Kit.due("nothing is left of it", 0, () -> k.wires.told(12));
    }

    private static void firstLetters() {
        Kit.says("WORDS: small letters, as many as stand there;");
        String[] clauses = {"tize 4 4;", "hall 1 1;", "side 1 1 1;", "get 0 0;", "bin 0 0 0;", "main 1;"};
        for (String clause : clauses) {
            Kit k = Kit.of("net 0 0;");
            Kit.due(clause, -9, () -> k.board("net 0 0;" + clause));
            Kit.due("fault of " + clause, 8, () -> k.wires.fault());
        }
        String[] names = {"fast", "ever", "grit", "bound", "side", "fol", "low", "fins", "beast[1,2]", "post[1,2]",
            "pass", "oven", "cris", "rounx", "widf", "com", "rot", "pint", "leasu[1,2]", "mosu[1,2]"};
        for (String name : names) {
            Kit k = new Kit();
            Kit.due(name, -9, () -> k.law("1+" + name));
            Kit.due("fault of " + name, 2, () -> k.wires.fault());
        }
        String[] steps = {"pound;", "day 0;", "dip 0;", "grit 0 1;", "clock 1 1;", "base 1;", "afain 1[];", "rounds;",
            "law 0;", "rid 0;", "cris 0 1;", "blocs 1 1;", "easf 1;", "agais 1[];"};
        for (String step : steps) {
            Kit k = Kit.of("net 0 0;");
            Kit.due(step, -9, () -> k.work("round;" + step));
            Kit.due("fault of " + step, 6, () -> k.wires.fault());
        }
    }

    static void all() {
        firstPlace();
        firstPlaceJoined();
        lastNet();
        sixUses();
        tight();
        far();
        rugged();
        behindTheLastRound();
        spans();
        bytesBehind();
        boardsInTurn();
        firstLetters();
    }
}
