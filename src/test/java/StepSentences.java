/** The terms under ==== 2, sentence by sentence: trees, how they grow, steps, rounds. */
final class StepSentences {
    /** Two nets that must cross. */
    private static final String CROSS =
            "size 3 3;net 0 1;net 0 9;pin 0 0 1;pin 0 2 1;pin 1 1 0;pin 1 1 2;";
    /** The way from 0, 0 to 2, 0 goes by 1, 0, where net 1 has its one pin, or around it. */
    private static final String DETOUR = "size 3 3;net 0 9;net 0 9;pin 0 0 0;pin 0 2 0;pin 1 1 0;";
    /** The pin at 2, 0 is behind a wall; it is told ahead of one that is not. */
    private static final String PARTED = "size 3 2;wall 1 0;wall 1 1;net 0 9;pin 0 0 0;pin 0 2 0;pin 0 0 1;";
    /** Net 0 has pins, net 1 has none. */
    private static final String BARE = "size 3 2;net 4 9;net 5 9;pin 0 0 0;pin 0 2 0;";
    /** By this law the south is cheap and the north dear. */
    private static final String SOUTHWARD = "1 + col % 2 * (2 - row) * 99";

    private static Kit kit(String board, String... works) {
        Kit k = Kit.of(board);
        for (String work : works) {
            k.work(work);
        }
        return k;
    }

    /** Six nets with one pin each, all at 0, 0. */
    private static String six(int wide, int gain) {
        StringBuilder s = new StringBuilder("size 2 2;wide 0 0 " + wide + ";gain " + gain + ";");
        for (int i = 0; i < 6; i++) {
            s.append("net 0 0;pin ").append(i).append(" 0 0;");
        }
        return s.toString();
    }

    private static void parent(String board, int x, int y, int due) {
        Kit k = kit(board, "lay 0;");
        Kit.due("parent of " + x + ", " + y + " on " + board, due, () -> k.wires.parent(0, x, y));
    }

    private static void ways() {
        Kit.says("The PLACE at X, Y: X goes to the east, Y to the south; its neighbours lie north, east, south, west, "
                + "in this order.");
        Kit k = kit("size 3 3;net 0 9;net 0 9;pin 0 1 1;pin 0 1 0;pin 0 2 1;pin 0 1 2;pin 1 1 1;pin 1 0 1;",
                "lay 0;lay 1;");
        Kit.due("the root lies south", 2, () -> k.wires.parent(0, 1, 0));
        Kit.due("the root lies west", 3, () -> k.wires.parent(0, 2, 1));
        Kit.due("the root lies north", 0, () -> k.wires.parent(0, 1, 2));
        Kit.due("the root lies east", 1, () -> k.wires.parent(1, 0, 1));
        parent("size 3 3;net 0 9;pin 0 2 0;pin 0 1 1;", 1, 1, 0);
        parent("size 3 3;net 0 9;pin 0 0 0;pin 0 1 1;", 1, 1, 0);
        parent("size 3 3;net 0 9;pin 0 2 2;pin 0 1 1;", 1, 1, 1);
        parent("size 3 3;net 0 9;pin 0 0 2;pin 0 1 1;", 1, 1, 2);
        parent("size 3 3;wall 1 1;net 0 9;pin 0 1 0;pin 0 1 2;", 1, 2, 1);
        parent("size 3 3;wall 1 1;net 0 9;pin 0 0 1;pin 0 2 1;", 2, 1, 0);
        Kit wide = kit("size 8 8;net 0 9;pin 0 0 1;", "lay 0;");
        Kit.due("the end of the row ahead is no neighbour", 8, () -> wide.wires.dist(0, 7, 0));
        Kit.due("nor the end of its own row", 7, () -> wide.wires.dist(0, 7, 1));
        Kit.due("nor the row at the other side", 6, () -> wide.wires.dist(0, 0, 7));
        Kit east = kit("size 8 8;net 0 9;pin 0 7 1;", "lay 0;");
        Kit.due("the begin of the row behind is no neighbour", 8, () -> east.wires.dist(0, 0, 2));
        Kit small = kit("size 3 2;net 0 9;pin 0 2 1;", "lay 0;");
        Kit.due("nothing beyond W and H", 3, () -> small.wires.dist(0, 0, 0));
    }

    private static void treesAtFirst() {
        Kit.says("A NET's TREE is empty, or has a ROOT, the NET's first pin, and PLACES, each but the ROOT with one "
                + "neighbour as its PARENT.");
        Kit k = kit(CROSS);
        Kit.due("empty", 0, () -> k.wires.net(0, 3));
        Kit.due("no root", -1, () -> k.wires.parent(0, 0, 1));
        k.work("round;round;round;");
        Kit.due("the first pin", 4, () -> k.wires.parent(0, 0, 1));
        Kit.due("the second pin is no root", 0, () -> k.wires.parent(0, 2, 1));
        int[] stepX = {0, 1, 0, -1};
        int[] stepY = {-1, 0, 1, 0};
        int x = 2;
        int y = 1;
        for (int i = 0; i < 4; i++) {
            int way = k.wires.parent(0, x, y);
            x += stepX[way];
            y += stepY[way];
            int here = 10 * y + x;
            int[] due = {2, 1, 0, 10};
            Kit.due("from the second pin, step " + i, due[i], () -> here);
        }

        Kit.says("USES of a PLACE: how many TREES have it.");
        Kit all = kit(six(3, 1));
        Kit.due("none", 0, () -> all.wires.place(0, 0, 1));
        for (int i = 0; i < 6; i++) {
            all.work("lay " + i + ";");
            Kit.due("uses behind lay " + i, i + 1, () -> all.wires.place(0, 0, 1));
        }
        all.work("lay 0;");
        Kit.due("laid once more", 6, () -> all.wires.place(0, 0, 1));
        all.work("rip 3;");
        Kit.due("one is torn up", 5, () -> all.wires.place(0, 0, 1));
        Kit.due("beside it", 0, () -> all.wires.place(1, 0, 1));

        Kit.says("It is OVER by what USES are more than its width (0 at least).");
        for (int wide = 1; wide <= 3; wide++) {
            Kit w = kit(six(wide, 1));
            Kit.due("nothing is used", 0, () -> w.wires.place(0, 0, 6));
            for (int i = 0; i < 6; i++) {
                w.work("lay " + i + ";");
                int due = Math.max(0, i + 1 - wide);
                Kit.due("width " + wide + ", uses " + (i + 1), due, () -> w.wires.place(0, 0, 6));
            }
        }

        Kit.says("A NET is JOINED, if its TREE has all of its pins (so without pins).");
        Kit j = kit("size 3 2;net 0 9;net 0 9;net 0 9;pin 0 0 0;pin 0 2 0;pin 1 1 0;");
        Kit.due("only the one without pins", 4, () -> j.wires.told(4));
        j.work("lay 0;");
        Kit.due("another's tree has the pin of net 1", 5, () -> j.wires.told(4));
        j.work("rip 0;lay 1;");
        Kit.due("net 1 by its one pin", 6, () -> j.wires.told(4));
        Kit part = kit(PARTED, "lay 0;");
        Kit.due("two of three pins", 0, () -> part.wires.told(4));

        Kit.says("At first TREES are empty, HISTORIES 0, it is ROUND 0.");
        Kit first = kit(six(1, 9), "round;round;");
        Kit.due("a history", 90, () -> first.wires.place(0, 0, 2));
        first.board(six(1, 9));
        Kit.due("trees", 0, () -> first.wires.told(8));
        Kit.due("uses", 0, () -> first.wires.place(0, 0, 1));
        Kit.due("histories", 0, () -> first.wires.ahead(0, 3));
        Kit.due("the round", 0, () -> first.wires.told(3));
    }

    private static void growing() {
        Kit.says("To GROW a TREE: while it has not all pins: DIST of each PLACE without a wall: 0 in the TREE, else the "
                + "least sum of COSTS of PLACES that one enters from the TREE on, itself, too, neighbour by neighbour, "
                + "no walls.");
        Kit k = kit("size 3 3;net 0 9;pin 0 0 0;", "lay 0;");
        k.law("col + 10 * row");
        int[] due = {0, 1, 3, 10, 12, 15, 30, 33, 37};
        for (int i = 0; i < 9; i++) {
            int x = i % 3;
            int y = i / 3;
            Kit.due("dist of " + x + ", " + y, due[i], () -> k.wires.dist(0, x, y));
        }
        k.work("block 1 0;");
        Kit.due("the wall", -1, () -> k.wires.dist(0, 1, 0));
        Kit.due("around the wall", 10 + 11 + 12 + 2, () -> k.wires.dist(0, 2, 0));
        k.work("block 0 1;");
        Kit.due("walled in", -1, () -> k.wires.dist(0, 2, 2));
        Kit.due("the root itself", 0, () -> k.wires.dist(0, 0, 0));

        Kit.says("Of pins that it has not that one comes next whose DIST is least, of alike ones the first told; "
                + "none has any: it stays as it is by then.");
        nextPins();

        Kit.says("From that pin back: each PLACE's PARENT is the first of its neighbours that has less DIST by just its "
                + "COST; up to the TREE all these are in it now.");
        Kit just = kit("size 3 3;net 0 9;pin 0 0 0;pin 0 1 1;");
        just.law("1 + col * (1 - row) * 2 + col * row * 4");
        just.work("lay 0;");
        Kit.due("the north is nearer, but not by just the cost", 3, () -> just.wires.parent(0, 1, 1));
        Kit.due("only these three are in it", 3, () -> just.wires.net(0, 3));
        Kit branch = kit("size 4 4;net 0 9;pin 0 0 0;pin 0 3 0;pin 0 2 2;", "lay 0;");
        Kit.due("up to the tree, not to the root", 4 + 2, () -> branch.wires.net(0, 3));
        Kit.due("from 2, 1 the tree lies north", 0, () -> branch.wires.parent(0, 2, 1));

        Kit.says("(COSTS by USES of other NETS, as they are now.)");
        Kit own = kit("size 3 2;net 0 9;net 0 9;pin 0 0 0;pin 0 2 0;pin 1 0 0;pin 1 2 0;", "lay 0;lay 0;");
        Kit.due("its own tree costs it no more", 1, () -> own.wires.cost(0, 1, 0));
        Kit.due("straight once more", 7, () -> own.wires.tree(0, 0));
        own.work("lay 1;");
        Kit.due("the other goes around", 7, () -> own.wires.tree(1, 1));
        Kit.due("and not by 1, 0", 5, () -> own.wires.tree(1, 0));
        own.work("rip 0;lay 1;");
        Kit.due("once nobody is there, straight", 7, () -> own.wires.tree(1, 0));
    }

    private static void nextPins() {
        Kit near = kit("size 4 4;net 0 9;pin 0 0 0;pin 0 0 3;pin 0 1 1;", "lay 0;");
        Kit.due("the nearer one first, though told last", 6, () -> near.wires.net(0, 3));
        Kit.due("so it hangs on the north", 0, () -> near.wires.parent(0, 1, 1));
        String alike = "size 4 4;net 0 9;pin 0 0 0;pin 0 2 1;pin 0 1 2;";
        Kit first = kit(alike, "lay 0;");
        Kit.due("alike: 2, 1 was told first", 6, () -> first.wires.net(0, 3));
        Kit second = kit("size 4 4;net 0 9;pin 0 0 0;pin 0 1 2;pin 0 2 1;", "lay 0;");
        Kit.due("alike: 1, 2 was told first", 5, () -> second.wires.net(0, 3));
        Kit dearer = kit(alike);
        dearer.law("1 + col / 2 * row");
        dearer.work("lay 0;");
        Kit.due("as many steps, but 2, 1 is dearer", 5, () -> dearer.wires.net(0, 3));
        Kit part = kit(PARTED, "lay 0;");
        Kit.due("the one that can be reached, though told last", 2, () -> part.wires.net(0, 3));
        Kit alone = kit("size 3 2;wall 1 0;wall 0 1;net 0 9;pin 0 0 0;pin 0 2 0;pin 0 2 1;", "lay 0;");
        Kit.due("none can be reached", 1, () -> alone.wires.net(0, 3));
        Kit.due("the root alone", 4, () -> alone.wires.parent(0, 0, 0));
        alone.work("round;");
        Kit.due("nor in a round", 1, () -> alone.wires.net(0, 3));
        Kit one = kit("net 0 9;pin 0 3 3;", "lay 0;");
        Kit.due("it has all pins at once", 1, () -> one.wires.net(0, 3));
    }

    private static void begun(String text, int done, int refused, int crit) {
        Kit k = kit(BARE);
        Kit.due("work " + text, done, () -> k.work(text));
        Kit.due("refused by " + text, refused, () -> k.wires.told(11));
        Kit.due("crit behind " + text, crit, () -> k.wires.net(0, 0));
    }

    private static void refused(String board, String ahead, String step) {
        Kit k = kit(board, ahead);
        String before = k.state();
        Kit.due(step + " behind " + ahead, 0, () -> k.work(step));
        Kit.due("refused is " + step, 1, () -> k.wires.told(11));
        Kit.same("the state behind " + step, before, k.state());
    }

    private static void stepsInOrder() {
        Kit.says("STEPS are done in order; one that can't be done is REFUSED, and changes nothing;");
        begun("crit 0 1;crit 0 2;crit 0 2;crit 0 3;", 3, 1, 3);
        begun("again 2[crit 0 1;crit 0 2;];crit 0 7;", 5, 0, 7);
        begun("rip 0;lay 0;rip 0;rip 0;lay 0;", 3, 2, 4);
        refused(BARE, "lay 0;", "lay 1;");
        refused(BARE, "lay 0;", "rip 1;");
        refused(BARE, "lay 0;", "crit 0 4;");
        refused(BARE, "lay 0;", "block 1 0;");

        Kit.says("200 STEPS at most are begun by one WORK (an again, too, each time it is come to; REFUSED ones, too), "
                + "what would come behind is left out.");
        begun("again 40[ease 1;ease 1;ease 1;ease 1;];again 37[ease 1;];crit 0 1;", 198, 0, 1);
        begun("again 40[ease 1;ease 1;ease 1;ease 1;];again 38[ease 1;];crit 0 1;", 198, 0, 4);
        begun("again 40[again 0[];again 0[];again 0[];again 0[];];again 37[ease 1;];crit 0 1;", 38, 0, 1);
        begun("again 40[again 0[];again 0[];again 0[];again 0[];];again 38[ease 1;];crit 0 1;", 38, 0, 4);
        begun("again 40[rip 0;rip 0;rip 0;rip 0;];again 37[rip 0;];crit 0 1;", 1, 197, 1);
        begun("again 40[rip 0;rip 0;rip 0;rip 0;];again 38[rip 0;];crit 0 1;", 0, 198, 4);
        begun("again 40[ease 1;ease 1;ease 1;ease 1;ease 1;];crit 0 1;", 199, 0, 4);
        // The six agains, and the innermost four times more.
        begun("again 40[again 40[again 40[again 40[again 40[again 40[ease 1;];];];];];];", 190, 0, 4);
        begun("again 40[again 40[again 40[];];];crit 0 1;", 0, 0, 4);
        begun("again 2[again 40[again 1[ease 1;];];];crit 0 1;", 81, 0, 1);
        Kit two = kit(BARE, "again 40[ease 1;ease 1;ease 1;ease 1;ease 1;];");
        Kit.due("the next work has its own", 199, () -> two.work("again 40[ease 1;ease 1;ease 1;ease 1;ease 1;];"));
    }

    private static void steps() {
        Kit.says("lay: the NET's TREE is its ROOT alone, then GROWS (REFUSED without pins).");
        refused(BARE, "", "lay 1;");
        Kit lay = kit("size 3 3;net 0 9;pin 0 0 0;pin 0 2 0;");
        lay.law(SOUTHWARD);
        lay.work("lay 0;");
        Kit.due("by the south", 7, () -> lay.wires.net(0, 3));
        Kit.due("laid as it is", 1, () -> lay.work("lay 0;"));
        lay.law("1");
        Kit.due("laid anew", 1, () -> lay.work("lay 0;"));
        Kit.due("straight, nothing is left in the south", 3, () -> lay.wires.net(0, 3));
        Kit.due("a pin that can't be reached", 1, () -> kit(PARTED).work("lay 0;"));

        Kit.says("rip: its TREE is empty (REFUSED, if it is).");
        refused(BARE, "", "rip 0;");
        refused(BARE, "lay 0;rip 0;", "rip 0;");
        Kit rip = kit(CROSS, "lay 0;lay 1;rip 0;");
        Kit.due("empty", 0, () -> rip.wires.net(0, 3));
        Kit.due("not even a root", -1, () -> rip.wires.parent(0, 0, 1));
        Kit.due("the other stays", 3, () -> rip.wires.net(1, 3));
        Kit.due("uses", 1, () -> rip.wires.place(1, 1, 1));

        Kit.says("crit: C of the NET is that from now on (REFUSED, if it is).");
        refused(BARE, "", "crit 1 5;");
        refused(BARE, "crit 1 0;", "crit 1 0;");
        Kit crit = kit(BARE, "crit 1 9;");
        Kit.due("crit of net 1", 9, () -> crit.wires.net(1, 0));
        Kit.due("crit of net 0", 4, () -> crit.wires.net(0, 0));
        Kit.due("back to what the board told", 1, () -> crit.work("crit 1 5;"));
    }

    private static void walls() {
        Kit.says("block: a wall is there, or, if there is one, none any more (REFUSED, if any TREE has it, or a pin is "
                + "there).");
        Kit k = kit("size 3 2;wall 2 1;net 0 9;pin 0 0 0;pin 0 2 0;");
        Kit.due("two", 2, () -> k.work("block 2 1;block 0 1;"));
        Kit.due("none any more", 0, () -> k.wires.place(2, 1, 3));
        Kit.due("a wall", 1, () -> k.wires.place(0, 1, 3));
        Kit.due("twice", 2, () -> k.work("block 1 1;block 1 1;"));
        Kit.due("as it was", 0, () -> k.wires.place(1, 1, 3));
        String straight = "size 3 2;net 0 9;pin 0 0 0;pin 0 2 0;";
        refused(straight, "", "block 0 0;");
        refused(straight, "", "block 2 0;");
        refused(straight, "lay 0;", "block 1 0;");
        refused(straight, "lay 0;rip 0;", "block 2 0;");
        Kit free = kit(straight, "lay 0;rip 0;");
        Kit.due("no tree has it any more", 1, () -> free.work("block 1 0;"));
        Kit.due("nor has one now", 1, () -> free.work("lay 0;"));
        Kit.due("around the wall", 5, () -> free.wires.net(0, 3));
        Kit.due("the wall goes beside a tree", 1, () -> free.work("block 1 0;"));

        Kit.says("ease: HISTORY of each PLACE is V less, 0 at least (never REFUSED).");
        Kit.due("nothing to ease", 1, () -> new Kit().work("ease 99;"));
        Kit e = kit("size 2 2;gain 9;net 0 9;net 0 9;net 0 9;pin 0 0 0;pin 0 1 0;pin 1 0 0;pin 2 0 0;", "round;");
        Kit.due("history", 18, () -> e.wires.place(0, 0, 2));
        e.work("rip 1;rip 2;lay 1;round;");
        Kit.due("one more", 18 + 18, () -> e.wires.place(0, 0, 2));
        e.work("ease 35;");
        Kit.due("eased to 1", 1, () -> e.wires.place(0, 0, 2));
        e.work("ease 1;");
        Kit.due("eased to 0", 0, () -> e.wires.place(0, 0, 2));
        Kit.due("eased once more", 1, () -> e.work("ease 99;"));
        Kit.due("0 at least", 0, () -> e.wires.ahead(0, 3));
    }

    private static void lastRounds() {
        Kit.says("round (REFUSED from ROUND 400 on):");
        Kit k = kit(six(1, 1), "again 40[round;round;round;round;];", "again 40[round;round;round;round;];");
        Kit.due("79", 79, () -> k.work("again 40[round;];again 39[round;];"));
        Kit.due("round 399", 399, () -> k.wires.told(3));
        Kit.due("the last one", 1, () -> k.work("round;"));
        Kit.due("round 400", 400, () -> k.wires.told(3));
        String before = k.state();
        Kit.due("no more", 0, () -> k.work("round;"));
        Kit.due("refused", 1, () -> k.wires.told(11));
        Kit.same("the state", before, k.state());
        k.wires.undo();
        Kit.due("other steps are done", 2, () -> k.work("rip 0;ease 1;round;"));
    }

    private static void staying() {
        Kit.says("NET by NET (OVER as those ahead of it have left it): one without pins, or that is JOINED and none of "
                + "whose PLACES is OVER, stays;");
        Kit bare = kit("net 0 0;", "round;");
        Kit.due("without pins", 0, () -> bare.wires.net(0, 3));
        Kit stays = kit("size 3 3;net 0 9;pin 0 0 0;pin 0 2 0;");
        stays.law(SOUTHWARD);
        stays.work("lay 0;");
        stays.law("1");
        stays.work("round;");
        Kit.due("it stays, though it goes around", 7, () -> stays.wires.net(0, 3));
        // Net 0 leaves 2, 2 in this round; net 1 would take the north, if it shed.
        Kit left = kit("size 4 4;net 0 9;net 0 9;pin 0 3 2;pin 0 2 3;pin 1 0 0;pin 1 2 0;");
        left.law(SOUTHWARD);
        left.work("lay 0;lay 1;");
        Kit.due("2, 2 is shared", 1, () -> left.wires.place(2, 2, 6));
        left.law("1 + over * 50");
        left.work("round;");
        Kit.due("net 0 goes by 3, 3", 1, () -> left.wires.parent(0, 2, 3));
        Kit.due("net 1 stays", 7, () -> left.wires.net(1, 3));
        Kit.due("in the south", 5, () -> left.wires.tree(1, 0));
        // Net 0 comes to 1, 0 in this round, so net 1 goes around at once.
        Kit come = kit("size 3 3;net 0 9;net 0 9;pin 0 1 0;pin 1 0 0;pin 1 2 0;", "lay 1;round;");
        Kit.due("net 1 went around", 5, () -> come.wires.tree(1, 0));
        Kit.due("nothing is over", 0, () -> come.wires.told(5));
        Kit.due("so there is no history", 0, () -> come.wires.ahead(0, 3));
    }

    private static void shedding() {
        Kit.says("another one SHEDS: of its TREE stay the ROOT (it is there from now on, if it was not) and those PLACES "
                + "that are not OVER, nor any on their way by PARENTS to the ROOT (the ROOT itself all the same); then it "
                + "GROWS.");
        Kit empty = kit("size 3 2;wall 1 0;wall 0 1;net 0 9;pin 0 0 0;pin 0 2 0;", "round;");
        Kit.due("the root from now on", 4, () -> empty.wires.parent(0, 0, 0));
        Kit.due("alone", 1, () -> empty.wires.net(0, 3));
        String star = "size 5 5;net 3 60;net 0 0;pin 0 2 2;pin 0 4 2;pin 0 0 2;pin 0 2 4;pin 1 ";
        Kit.due("over in the middle of an arm", 5, () -> kit(star + "3 2;", "lay 0;lay 1;").wires.shed(0));
        Kit.due("over at its end", 6, () -> kit(star + "4 2;", "lay 0;lay 1;").wires.shed(0));
        Kit.due("over at the root", 7, () -> kit(star + "2 2;", "lay 0;lay 1;").wires.shed(0));
        Kit.due("over nowhere", 7, () -> kit(star + "1 1;", "lay 0;lay 1;").wires.shed(0));
        Kit arm = kit(star + "3 2;", "lay 0;lay 1;round;");
        Kit.due("it has all pins again", 3, () -> arm.wires.told(4));
        Kit.due("the other arms stay", 1 + 2 + 4, () -> arm.wires.tree(0, 2) & 7);
        Kit.due("and 3, 2 is left", 0, () -> arm.wires.tree(0, 2) & 8);
        // Laid by the south, over at 2, 1: what is on the root's side stays, though it leads nowhere now.
        Kit torn = kit("size 3 3;net 0 9;net 0 9;pin 0 0 0;pin 0 2 0;pin 1 2 1;");
        torn.law(SOUTHWARD);
        torn.work("lay 0;lay 1;");
        torn.law("1 + over * 50");
        Kit.due("five stay", 5, () -> torn.wires.shed(0));
        torn.work("round;");
        Kit.due("and two are new", 7, () -> torn.wires.net(0, 3));
        Kit.due("2, 2 is in it still", 7, () -> torn.wires.tree(0, 2));
        Kit.due("2, 1 is not", 1, () -> torn.wires.tree(0, 1));
        // Not joined, but nothing over: all stays, and grows from there.
        Kit open = kit(PARTED, "lay 0;block 1 1;round;");
        Kit.due("joined now", 1, () -> open.wires.told(4));
        Kit.due("0, 1 hangs on the root as before", 0, () -> open.wires.parent(0, 0, 1));
        Kit.due("five places", 5, () -> open.wires.net(0, 3));
        Kit root = kit("size 3 2;net 0 9;net 0 9;pin 0 0 0;pin 0 2 0;pin 1 0 0;");
        root.law("1 + (1 - row) * col % 2 * 9");
        root.work("lay 0;lay 1;");
        Kit.due("by the south", 5, () -> root.wires.net(0, 3));
        root.law("1");
        root.work("round;");
        Kit.due("only the root is over: all stays", 5, () -> root.wires.net(0, 3));
    }

    private static void behindRounds() {
        Kit.says("Then HISTORY of each PLACE is more by what it is OVER times the gain, 9,999 at most; the ROUND is one "
                + "more.");
        Kit none = kit(six(1, 0), "round;round;");
        Kit.due("gain 0", 0, () -> none.wires.place(0, 0, 2));
        Kit.due("round 2", 2, () -> none.wires.told(3));
        Kit three = kit(six(3, 2), "round;");
        Kit.due("over by 3, gain 2", 6, () -> three.wires.place(0, 0, 2));
        Kit.due("beside it", 0, () -> three.wires.place(1, 0, 2));
        Kit most = kit(six(1, 9), "again 40[round;round;round;round;];", "again 40[round;];again 22[round;];");
        Kit.due("222 rounds, 45 each", 9990, () -> most.wires.place(0, 0, 2));
        most.work("round;");
        Kit.due("9,999 at most", 9999, () -> most.wires.place(0, 0, 2));
        most.work("round;");
        Kit.due("still", 9999, () -> most.wires.place(0, 0, 2));
        most.work("ease 9;");
        Kit.due("eased from there", 9990, () -> most.wires.place(0, 0, 2));
        Kit.due("a round without nets", 1, () -> new Kit().work("round;"));

        Kit.says("ALL IS DONE, if all NETS are JOINED and no PLACE is OVER.");
        Kit.due("no nets", 1, () -> new Kit().wires.told(6));
        Kit.due("a net without pins", 1, () -> Kit.of("net 0 0;").wires.told(6));
        Kit.due("not joined", 0, () -> kit(DETOUR, "lay 0;").wires.told(6));
        Kit.due("over", 0, () -> kit(DETOUR, "lay 0;lay 1;").wires.told(6));
        Kit.due("done", 1, () -> kit(DETOUR, "lay 1;lay 0;").wires.told(6));
        Kit.due("neither joined nor over", 0, () -> kit(PARTED, "round;").wires.told(6));
    }

    static void all() {
        ways();
        treesAtFirst();
        growing();
        stepsInOrder();
        steps();
        walls();
        lastRounds();
        staying();
        shedding();
        behindRounds();
    }
}
