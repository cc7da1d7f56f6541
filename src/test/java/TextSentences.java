/** The terms under ==== 1, sentence by sentence: boards, laws, work, books, and their faults. */
final class TextSentences {
    private static final int NO_SUCH = Kit.NO_SUCH;
    private static final String NET = "size 3 2;net 4 9;pin 0 0 0;pin 0 2 1;";

    private static String blanks(int many) {
        return " ".repeat(many);
    }

    private static void board(String text, int nets) {
        Kit k = new Kit();
        Kit.due("board " + text, nets, () -> k.board(text));
        Kit.due("fault of board " + text, -1, () -> k.wires.fault());
    }

    /** What stood ahead of the fault is not told either. */
    private static void noBoard(String text, int kind, int at) {
        Kit k = Kit.of("size 5 6;net 1 2;gain 8;");
        Kit.due("board " + text, kind - 10, () -> k.board(text));
        Kit.due("fault of board " + text, at, () -> k.wires.fault());
        Kit.due("the board ahead of " + text, 5618, () -> 1000 * k.wires.told(0) + 100 * k.wires.told(1)
                + 10 * k.wires.told(2) + k.wires.told(9));
    }

    private static void told(String text, int what, int due) {
        Kit k = Kit.of(text);
        Kit.due("told " + what + " of " + text, due, () -> k.wires.told(what));
    }

    private static void place(String text, int x, int y, int what, int due) {
        Kit k = Kit.of(text);
        Kit.due("place " + x + " " + y + " " + what + " of " + text, due, () -> k.wires.place(x, y, what));
    }

    private static void net(String text, int net, int what, int due) {
        Kit k = Kit.of(text);
        Kit.due("net " + net + " " + what + " of " + text, due, () -> k.wires.net(net, what));
    }

    /** By past 40, over 2, crit 3, round 5, wide 2, col 6, row 7, pins 1. */
    private static void law(String text, int value) {
        Kit k = new Kit();
        Kit.due("law " + text, 1, () -> k.law(text));
        Kit.due("fault of law " + text, -1, () -> k.wires.fault());
        Kit.due("value of law " + text, value, () -> k.wires.would(40, 2, 3, 5, 2, 6, 7, 1));
    }

    private static void noLaw(String text, int kind, int at) {
        Kit k = new Kit();
        k.law("77");
        Kit.due("law " + text, kind - 10, () -> k.law(text));
        Kit.due("fault of law " + text, at, () -> k.wires.fault());
        Kit.due("the law ahead of " + text, 77, () -> k.wires.would(40, 2, 3, 5, 2, 6, 7, 1));
    }

    private static void work(String text, int done, int refused) {
        Kit k = Kit.of(NET);
        Kit.due("work " + text, done, () -> k.work(text));
        Kit.due("fault of work " + text, -1, () -> k.wires.fault());
        Kit.due("refused by " + text, refused, () -> k.wires.told(11));
    }

    private static void noWork(String text, int kind, int at) {
        Kit k = Kit.of(NET);
        Kit.due("work " + text, kind - 10, () -> k.work(text));
        Kit.due("fault of work " + text, at, () -> k.wires.fault());
        Kit.due("nothing done by " + text, 0, () -> k.wires.told(3) + k.wires.told(8) + k.wires.told(12));
        Kit.due("nothing to undo behind " + text, 0, () -> k.wires.count(2));
    }

    private static void book(String text, int lines) {
        Kit k = Kit.of("size 8 8;");
        Kit.due("book " + text, lines, () -> k.book(text));
        Kit.due("fault of book " + text, -1, () -> k.wires.fault());
        Kit.due("lines of book " + text, lines, () -> k.wires.told(10));
    }

    private static void noBook(String board, String text, int kind, int at) {
        Kit k = Kit.of(board);
        k.book("1 1 1;0 1 1;");
        Kit.due("book " + text, kind - 10, () -> k.book(text));
        Kit.due("fault of book " + text, at, () -> k.wires.fault());
        Kit.due("lines ahead of book " + text, 2, () -> k.wires.told(10));
    }

    private static void clauses() {
        Kit.says("A BOARD is a text of up to 600 bytes: { CLAUSE \";\" }, at most 60.");
        board("", 0);
        board(blanks(600), 0);
        board(blanks(592) + "net 1 2;", 1);
        told(blanks(593) + "gain 7;", 9, 7);
        noBoard(blanks(593) + "gain 7 ", 1, 600);
        told("gain 2;".repeat(59) + "gain 3;", 9, 3);
        noBoard("gain 2;".repeat(60) + "gain 3;", 3, 420);
        noBoard("gain 2", 1, 6);
        noBoard(";", 1, 0);

        Kit.says("CLAUSE: \"size\" W H (2 to 8 each; 4 and 4 without; the last counts, for all)");
        told("", 0, 4);
        told("", 1, 4);
        told("size 2 8;", 0, 2);
        told("size 2 8;", 1, 8);
        told("size 8 2;", 0, 8);
        told("size 8 2;", 1, 2);
        noBoard("size 1 8;", 2, 5);
        noBoard("size 8 1;", 2, 7);
        noBoard("size 9 2;", 2, 5);
        noBoard("size 2 9;", 2, 7);
        noBoard("size 0 0;", 2, 5);
        told("size 8 7;size 3 2;", 0, 3);
        told("size 8 7;size 3 2;", 1, 2);
        told("size 2 2;size 7 8;", 1, 8);
        place("size 2 2;wall 4 5;wide 5 4 2;size 8 8;", 4, 5, 3, 1);
        place("size 2 2;wall 4 5;wide 5 4 2;size 8 8;", 5, 4, 0, 2);
        net("size 2 2;net 0 0;pin 0 7 7;size 8 8;", 0, 2, 1);
        told("size 8 8;wall 7 7;wall 2 1;wall 1 2;size 2 2;", 12, 0);

        Kit.says("\"wall\" X Y");
        place("size 8 8;wall 0 0;", 0, 0, 3, 1);
        place("size 8 8;wall 7 7;", 7, 7, 3, 1);
        place("size 8 8;wall 6 1;", 6, 1, 3, 1);
        place("size 8 8;wall 6 1;", 1, 6, 3, 0);
        told("wall 1 1;wall 1 1;", 12, 1);
        noBoard("wall 1;", 1, 6);
        noBoard("wall 1 1 1;", 1, 9);

        Kit.says("\"wide\" X Y N (N 1 to 3; 1 without; of one place the last counts)");
        place("", 3, 3, 0, 1);
        place("wide 3 1 1;", 3, 1, 0, 1);
        place("wide 3 1 3;", 3, 1, 0, 3);
        place("wide 3 1 3;", 1, 3, 0, 1);
        place("wide 3 1 3;wide 3 1 2;", 3, 1, 0, 2);
        place("wide 3 1 3;wide 3 1 1;", 3, 1, 0, 1);
        noBoard("wide 3 1 0;", 2, 9);
        noBoard("wide 3 1 4;", 2, 9);
    }

    private static void netClauses() {
        Kit.says("\"net\" C L (NETS, numbered from 0 on, 6 at most: CRIT C, 0 to 9, LIMIT L, 0 to 60)");
        board("net 0 0;", 1);
        board("net 0 0;".repeat(6), 6);
        noBoard("net 0 0;".repeat(7), 3, 48);
        net("net 0 60;net 9 0;", 0, 0, 0);
        net("net 0 60;net 9 0;", 0, 1, 60);
        net("net 0 60;net 9 0;", 1, 0, 9);
        net("net 0 60;net 9 0;", 1, 1, 0);
        net("net 0 60;net 9 0;", 2, 0, NO_SUCH);
        net("net 1 1;net 2 2;net 3 3;net 4 4;net 5 5;net 6 7;", 5, 0, 6);
        net("net 1 1;net 2 2;net 3 3;net 4 4;net 5 5;net 6 7;", 5, 1, 7);
        noBoard("net 10 0;", 2, 4);
        noBoard("net 0 61;", 2, 6);

        Kit.says("\"pin\" N X Y (of NET N, told ahead, 4 at most each)");
        net("net 0 0;pin 0 0 0;pin 0 1 0;pin 0 2 0;pin 0 3 0;", 0, 2, 4);
        noBoard("net 0 0;pin 0 0 0;pin 0 1 0;pin 0 2 0;pin 0 3 0;pin 0 0 1;", 3, 52);
        net("net 0 0;net 0 0;" + "pin 1 0 0;pin 1 1 0;pin 1 2 0;pin 1 3 0;pin 0 0 0;pin 0 1 0;pin 0 2 0;pin 0 3 0;", 0, 2, 4);
        net("net 0 0;net 0 0;pin 1 0 0;", 0, 2, 0);
        noBoard("pin 0 0 0;", 2, 4);
        noBoard("pin 0 0 0;net 0 0;", 2, 4);
        noBoard("net 0 0;pin 1 0 0;net 0 0;", 2, 12);
        noBoard("net 0 0;".repeat(6) + "pin 6 0 0;", 2, 52);

        Kit.says("or \"gain\" N (0 to 9; 1 without; the last counts).");
        told("", 9, 1);
        told("gain 0;", 9, 0);
        told("gain 9;", 9, 9);
        told("gain 9;gain 4;", 9, 4);
        noBoard("gain 10;", 2, 5);

        Kit.says("X, Y: 0 to 7 each.");
        told("size 8 8;wall 0 7;wall 7 0;wide 0 7 1;wide 7 0 1;net 0 0;pin 0 7 6;pin 0 6 7;", 12, 2);
        noBoard("wall 8 0;", 2, 5);
        noBoard("wall 0 8;", 2, 7);
        noBoard("wide 8 0 1;", 2, 5);
        noBoard("wide 0 8 1;", 2, 7);
        noBoard("net 0 0;pin 0 8 0;", 2, 14);
        noBoard("net 0 0;pin 0 0 8;", 2, 16);
        told("size 2 2;wall 7 7;", 12, 0);
    }

    private static void leftOut() {
        Kit.says("What is told of places beyond W or H, as they are told at the end, is left out; "
                + "a pin told once more of its NET, too; where a pin is there is no wall.");
        told("wall 3 3;wall 4 3;wall 3 4;wall 4 4;", 12, 1);
        told("size 8 8;wall 2 1;wall 3 1;wall 2 2;wall 3 2;size 3 2;", 12, 1);
        net("net 0 0;pin 0 4 0;pin 0 0 4;pin 0 3 3;", 0, 2, 1);
        Kit first = Kit.of("net 0 9;pin 0 4 0;pin 0 2 2;pin 0 2 2;pin 0 3 3;");
        Kit.due("pins", 2, () -> first.wires.net(0, 2));
        first.work("lay 0;");
        Kit.due("the root is the first that is not left out", 4, () -> first.wires.parent(0, 2, 2));
        Kit wide = Kit.of("wide 5 5 3;");
        wide.board("size 8 8;");
        Kit.due("a width beyond, on the next board", 1, () -> wide.wires.place(5, 5, 0));
        Kit both = Kit.of("net 0 9;net 0 9;pin 0 1 1;pin 0 1 1;pin 1 1 1;pin 0 1 1;");
        Kit.due("of its net", 1, () -> both.wires.net(0, 2));
        Kit.due("of another net", 1, () -> both.wires.net(1, 2));
        Kit.due("both are there", 3, () -> both.wires.place(1, 1, 5));
        told("net 0 0;wall 1 1;pin 0 1 1;", 12, 0);
        told("net 0 0;pin 0 1 1;wall 1 1;wall 1 2;", 12, 1);
        Kit behind = Kit.of("net 0 0;pin 0 1 1;");
        behind.board("net 0 0;wall 1 1;");
        Kit.due("a wall, the pin was of another board", 1, () -> behind.wires.place(1, 1, 3));
        Kit.due("no pin there", 0, () -> behind.wires.place(1, 1, 5));
    }

    private static void laws() {
        Kit.says("A LAW is a text of up to 150 bytes: E, at the end nothing more;");
        law(" 1" + "+1".repeat(74), 75);
        law("1" + blanks(149), 1);
        law(blanks(149) + "8", 8);
        noLaw("", 1, 0);
        noLaw(blanks(150), 1, 150);
        noLaw("1" + "+1".repeat(74) + "+", 1, 150);
        noLaw("1 1", 1, 2);
        noLaw("1 past", 1, 2);
        noLaw("1;", 1, 1);

        Kit.says("without: 1 + (past + over * (round + 3)) * (10 - crit) / 10.");
        Kit k = new Kit();
        Kit.due("nothing", 1, () -> k.wires.would(0, 0, 0, 0, 1, 0, 0, 0));
        Kit.due("all", 999, () -> k.wires.would(9999, 6, 0, 400, 3, 7, 7, 6));
        Kit.due("over once in round 0", 4, () -> k.wires.would(0, 1, 0, 0, 1, 0, 0, 0));
        Kit.due("8 * 3 / 10", 3, () -> k.wires.would(3, 1, 7, 2, 1, 0, 0, 0));
        Kit.due("9 * 1 / 10 is cut", 1, () -> k.wires.would(9, 0, 9, 0, 1, 0, 0, 0));
        Kit.due("10 * 1 / 10", 2, () -> k.wires.would(10, 0, 9, 0, 1, 0, 0, 0));
        Kit.due("998", 999, () -> k.wires.would(998, 0, 0, 0, 1, 0, 0, 0));
        Kit.due("997", 998, () -> k.wires.would(997, 0, 0, 0, 1, 0, 0, 0));
        Kit.due("wide, col, row, pins all the same", 1, () -> k.wires.would(0, 0, 5, 399, 3, 7, 6, 5));

        Kit.says("COST of a PLACE for a NET: what comes out, 1 at least, 999 at most.");
        law("1-1", 1);
        law("0-5", 1);
        law("1", 1);
        law("2", 2);
        law("998", 998);
        law("999", 999);
        law("999+1", 999);
        law("999*999*999", 999);
    }

    private static void terms() {
        Kit.says("E: T { + or - T }. T: U { * or / or % U }.");
        law("50-8-7", 35);
        law("50-8+7", 49);
        law("1+2*3+4", 11);
        law("90/9*5", 50);
        law("90*9/5", 162);
        law("100/7/3", 4);
        law("100%7*5", 10);
        law("5*100%7", 3);
        law("90-7%4*2", 84);
        noLaw("-1", 1, 0);
        noLaw("+1", 1, 0);
        noLaw("1+*1", 1, 2);
        noLaw("*1", 1, 0);
        noLaw("1/", 1, 2);
        noLaw("2%-1", 1, 2);

        Kit.says("U: N (0 to 999)");
        law("7+0", 7);
        law("999-0", 999);
        noLaw("1000", 2, 0);
        noLaw("7+1000", 2, 2);

        Kit.says("\"past\" (HISTORY of the PLACE), \"over\" (how many more than its width would have it, if the NET had "
                + "it, too; 0 at least), \"crit\" (C of the NET by now), \"round\" (the ROUND), \"wide\" (of the PLACE), "
                + "\"col\" (X), \"row\" (Y), \"pins\" (how many other NETS have a pin there)");
        names();

        Kit.says("\"least\" \"[\" E \",\" E \"]\", \"most\" \"[\" E \",\" E \"]\", or \"(\" E \")\".");
        law("least[3,4]", 3);
        law("least[4,3]", 3);
        law("least[4,4]", 4);
        law("most[3,4]", 4);
        law("most[4,3]", 4);
        law("least[0-9,5]+20", 11);
        law("most[0-9,5]", 5);
        law("most[1+2*3,least[9,8]-2]", 7);
        law("(4)", 4);
        law("3*(4-(2-1))", 9);
        noLaw("()", 1, 1);
        noLaw("least[1,]", 1, 8);
        noLaw("least[,1]", 1, 6);
        noLaw("least[1]", 1, 7);
        noLaw("least[1,2,3]", 1, 9);
        noLaw("most(1,2)", 1, 4);
        noLaw("most[1,2)", 1, 8);
        noLaw("(1]", 1, 2);
        noLaw("(1", 1, 2);
        noLaw("1)", 1, 1);

        Kit.says("Values are whole numbers of 32 bits that wrap; / cuts, % leaves (with the sign of what is divided), "
                + "by 0 both are 0.");
        String least = "512*512*512*16";
        law(least, 1);
        law(least + "-1", 999);
        law(least + "-1+1", 1);
        law("0-" + least + "-1", 999);
        law("7+512*512*512*32", 7);
        law(least + "/(0-1)-1", 999);
        law("5+" + least + "%(0-1)", 5);
        law("20+(0-7)/2", 17);
        law("20+7/(0-2)", 17);
        law("20+(0-7)%4", 17);
        law("20+7%(0-4)", 23);
        law("20+(0-7)%(0-4)", 17);
        law("5+9/0", 5);
        law("5+9%0", 5);
        law("5+9/(3-3)", 5);
        law("5+(0-9)%(3-3)", 5);
        law("5+0/0", 5);
    }

    /** Six nets with a pin at 1, 1, and three of them laid there; net 1 has another pin at 3, 2, all alone. */
    private static void names() {
        StringBuilder text = new StringBuilder("wide 1 1 2;gain 5;");
        for (int i = 0; i < 6; i++) {
            text.append("net ").append(i).append(" 9;pin ").append(i).append(" 1 1;");
        }
        text.append("pin 1 3 2;");
        Kit k = Kit.of(text.toString());
        k.law("past+1");
        Kit.due("past at first", 1, () -> k.wires.cost(0, 1, 1));
        k.work("lay 0;lay 1;lay 2;");
        k.law("over+10");
        Kit.due("over: two others and it, too", 11, () -> k.wires.cost(0, 1, 1));
        Kit.due("over: three others and it, too", 12, () -> k.wires.cost(5, 1, 1));
        Kit.due("over: none has it", 10, () -> k.wires.cost(0, 0, 3));
        Kit.due("over: it alone has it", 10, () -> k.wires.cost(1, 3, 2));
        Kit.due("over: one other has it", 11, () -> k.wires.cost(0, 3, 2));
        k.work("rip 1;rip 2;");
        Kit.due("over: it alone has a place for two", 10, () -> k.wires.cost(0, 1, 1));
        Kit.due("over: one other has a place for two", 10, () -> k.wires.cost(5, 1, 1));
        k.law("pins+10");
        Kit.due("pins of five others", 15, () -> k.wires.cost(0, 1, 1));
        Kit.due("pins of its own only", 10, () -> k.wires.cost(1, 3, 2));
        Kit.due("pins of one other", 11, () -> k.wires.cost(0, 3, 2));
        Kit.due("pins of none", 10, () -> k.wires.cost(0, 0, 0));
        k.law("crit+10");
        Kit.due("crit", 15, () -> k.wires.cost(5, 0, 0));
        k.work("crit 5 8;");
        Kit.due("crit by now", 18, () -> k.wires.cost(5, 0, 0));
        Kit.due("crit of another", 10, () -> k.wires.cost(0, 0, 0));
        k.law("wide*100+col*10+row");
        Kit.due("wide, col, row", 211, () -> k.wires.cost(0, 1, 1));
        Kit.due("wide, col, row", 132, () -> k.wires.cost(0, 3, 2));
        k.law("round*100+past");
        k.work("round;round;");
        Kit.due("round 2, past 2 * 4 * 5", 240, () -> k.wires.cost(0, 1, 1));
        Kit.due("round 2, no past", 200, () -> k.wires.cost(0, 0, 1));
    }

    private static void works() {
        Kit.says("WORK is a text of up to 150 bytes: { STEP \";\" }.");
        work("", 0, 0);
        work(blanks(150), 0, 0);
        work(blanks(143) + "ease 1;", 1, 0);
        work("rip 0;".repeat(25), 0, 25);
        noWork(blanks(143) + "ease 1 ", 1, 150);
        noWork(";", 1, 0);
        noWork("round", 1, 5);

        Kit.says("STEP (N: a NET, told; X below W, Y below H):");
        work("lay 0;rip 0;crit 0 0;", 3, 0);
        noWork("lay 1;", 2, 4);
        noWork("rip 1;", 2, 4);
        noWork("crit 1 0;", 2, 5);
        work("block 2 0;block 0 1;", 2, 0);
        noWork("block 3 0;", 2, 6);
        noWork("block 0 2;", 2, 8);
        Kit none = new Kit();
        Kit.due("without nets", -8, () -> none.work("lay 0;"));
        Kit.due("at 4", 4, () -> none.wires.fault());
        Kit six = Kit.of("size 8 8;" + "net 0 0;".repeat(6));
        Kit.due("the sixth net, the last place", 2, () -> six.work("crit 5 1;block 7 7;"));

        Kit.says("\"round\", \"lay\" N, \"rip\" N, \"crit\" N C (0 to 9), \"block\" X Y, \"ease\" V (1 to 99), "
                + "or \"again\" V \"[\" { STEP \";\" } \"]\" (V 0 to 40).");
        work("round;lay 0;rip 0;crit 0 9;block 1 0;ease 99;again 1[ease 1;];", 7, 0);
        work("crit 0 0;crit 0 9;", 2, 0);
        noWork("crit 0 10;", 2, 7);
        work("ease 1;", 1, 0);
        noWork("ease 0;", 2, 5);
        noWork("ease 100;", 2, 5);
        work("again 0[ease 1;];", 0, 0);
        work("again 40[ease 1;];", 40, 0);
        noWork("again 41[ease 1;];", 2, 6);
        work("again 9[];", 0, 0);
        noWork("round 1;", 1, 6);
        noWork("again 1;", 1, 7);
        noWork("again [];", 1, 6);
        noWork("again 1[ease 1];", 1, 14);
        noWork("again 1[ease 1;]", 1, 16);
        noWork("again 1(ease 1;);", 1, 7);
        noWork("];", 1, 0);
        noWork("again 1[];];", 1, 10);
    }

    private static void books() {
        Kit.says("A BOOK is a text of up to 60 bytes: { X Y U \";\" }, 8 lines at most (X below W, Y below H, U 0 to 6), "
                + "no X, Y twice: U NETS use the PLACE at X, Y.");
        String eight = "0 0 1;1 0 1;2 0 1;3 0 1;4 0 1;5 0 1;6 0 1;7 7 6;";
        book("", 0);
        book(blanks(60), 0);
        book(blanks(54) + "7 7 0;", 1);
        book(eight, 8);
        book(eight + blanks(12), 8);
        noBook("size 8 8;", eight + "0 1 1;", 3, 48);
        noBook("size 3 2;", "3 0 1;", 2, 0);
        noBook("size 3 2;", "0 2 1;", 2, 2);
        noBook("size 3 2;", "2 1 7;", 2, 4);
        noBook("size 3 2;", "0 0 0;2 1 6;0 0 0;", 2, 14);
        noBook("size 3 2;", "0 0 0", 1, 5);
        book("1 0 0;0 1 0;1 1 0;", 3);
        Kit k = Kit.of("net 0 0;net 0 0;pin 0 1 1;pin 1 1 1;");
        k.work("lay 0;");
        k.book("1 1 2;");
        Kit.due("two nets use 1, 1 only behind lay 1", 11, () -> k.wires.fits(1));
        Kit.due("behind nothing else", 1, () -> k.wires.fits(0));
    }

    private static void tokens() {
        Kit.says("Numbers: digits, as many as stand there;");
        told("gain 0000000000000000000000000000009;", 9, 9);
        noBoard("gain 4294967297;", 2, 5);
        noBoard("gain 18446744073709551617;", 2, 5);
        noBoard("gain 11;", 2, 5);
        law("0000000999", 999);
        noLaw("9999999999", 2, 0);
        noLaw("4294967297", 2, 0);
        work("ease 0099;", 1, 0);
        noWork("lay 4294967296;", 2, 4);
        noBook("size 3 2;", "4294967296 0 0;", 2, 0);
        noBoard("gain 1 2;", 1, 7);

        Kit.says("WORDS: small letters, as many as stand there;");
        told("gain7;", 9, 7);
        noBoard("gains 7;", 1, 0);
        noBoard("gai n 7;", 1, 0);
        noBoard("Gain 7;", 1, 0);
        noBoard("gaiN 7;", 1, 0);
        noBoard("netnet 0 0;", 1, 0);
        law("2*past", 80);
        noLaw("pastpast", 1, 0);
        noLaw("past1", 1, 4);
        noLaw("pas", 1, 0);
        noLaw("mosts[1,2]", 1, 0);
        work("again1[ease1;];", 1, 0);
        noWork("roundround;", 1, 0);

        Kit.says("blanks (32) may stand ahead of all these, and at the end.");
        told("  gain  7  ;  ", 9, 7);
        law("  least  [  3  +  (  2  )  ,  9  *  1  ]  %  4  ", 1);
        work("  again  2  [  ease  1  ;  ]  ;  ", 2, 0);
        book("  0  0  0  ;  1  1  6  ;  ", 2);
        noBoard("gain\t7;", 1, 4);
        noBoard("gain 7;\n", 1, 7);
        noBoard("\u0000gain 7;", 1, 0);
        noBoard("gain\u00a07;", 1, 4);
        noLaw("1\r", 1, 1);
        noLaw("1 0", 1, 2);
        noWork("ro und;", 1, 0);
    }

    private static void faults() {
        Kit.says("FAULTS, the first from the left, at its first byte: "
                + "1 what can't stand there (at the length, if the text ends too early);");
        noBoard("size 9 1;pin;", 2, 5);
        noBoard("  bad; size 1 1;", 1, 2);
        noBoard("net 0 0;pin 5 9 9;x", 2, 12);
        noLaw("1 + bad + 1000", 1, 4);
        noLaw("1000 + bad", 2, 0);
        noWork("lay 9;;", 2, 4);
        noBook("size 3 2;", "0 0 9;9 9 9;", 2, 4);
        noBoard("gain", 1, 4);
        noBoard("gain   ", 1, 7);
        noBoard("gain 7", 1, 6);
        noBoard("gain 7  ", 1, 8);
        noBoard("wide 1 1", 1, 8);
        noLaw("(2", 1, 2);
        noLaw("2 *  ", 1, 5);
        noWork("again 1[ease 1;", 1, 15);
        noWork("again", 1, 5);
        noBook("size 3 2;", "0", 1, 1);
        noBook("size 3 2;", "0 0 ", 1, 4);

        Kit.says("2 a number that is none such (an X, Y twice: at its Y);");
        noBoard("wide  8 8 8;", 2, 6);
        noBook("size 8 8;", "7 3 1; 7  3 1;", 2, 10);
        noBook("size 8 8;", "7 3 1;07 03 1;", 2, 9);
        noBook("size 8 8;", "7 3 1;7 8 1;", 2, 8);
        noBook("size 8 8;", "7 3 1;8 3 1;", 2, 6);
        book("7 3 1;3 7 1;", 2);

        Kit.says("3 a CLAUSE or NET too many (at its word), a 5th pin of a NET, as they are told, also those that are "
                + "left out (at its N), a 9th line (at its X), or a 7th of ( least most again that is open at one time;");
        tooMany();

        Kit.says("of one the least.");
        noBoard("gain 2;".repeat(60) + "grow 2;", 1, 420);
        noBoard("gain 2;".repeat(60) + "7;", 1, 420);
        noBoard("gain 2;".repeat(54) + "net 0 0;".repeat(6) + "net 0 0;", 3, 426);
        String eight = "0 0 1;1 0 1;2 0 1;3 0 1;4 0 1;5 0 1;6 0 1;7 0 1;";
        noBook("size 8 8;", eight + "8 0 1;", 2, 48);
        noBook("size 8 8;", eight + "x 0 1;", 1, 48);
        noBook("size 8 8;", eight + "0 0 1;", 3, 48);
        noBoard("net 0 0;" + "pin 0 0 0;".repeat(4) + "pin 1 0 0;", 2, 52);
        noBoard("net 0 0;" + "pin 0 0 0;".repeat(4) + "pin x 0 0;", 1, 52);
    }

    private static void tooMany() {
        noBoard("gain 2;".repeat(60) + "  gain 10;", 3, 422);
        noBoard("net 0 0;".repeat(6) + "  net 10 0;", 3, 50);
        noBoard("net 0 0;" + "pin 0 1 1;".repeat(4) + "pin  0 8 8;", 3, 53);
        noBoard("size 2 2;net 0 0;" + "pin 0 5 5;".repeat(4) + "pin 0 0 0;", 3, 61);
        net("size 2 2;net 0 0;" + "pin 0 5 5;".repeat(3) + "pin 0 0 0;", 0, 2, 1);
        noBook("size 8 8;", "0 0 1;1 0 1;2 0 1;3 0 1;4 0 1;5 0 1;6 0 1;7 0 1;  3 3 9", 3, 50);
        law("((((((5))))))", 5);
        noLaw("(((((((5)))))))", 3, 6);
        law("((((((5))))))*((((((3))))))", 15);
        law("(((((least[5,7])))))", 5);
        noLaw("((((((least[5,7]))))))", 3, 6);
        noLaw("(((((( least", 3, 7);
        noLaw("((((((most[5,7]))))))", 3, 6);
        noLaw("((((((bad", 1, 6);
        law("least[1,least[1,least[1,least[1,least[1,least[1,2]]]]]]", 1);
        noLaw("least[1,least[1,least[1,least[1,least[1,least[1,most[1,2]]]]]]]", 3, 48);
        noLaw("least[((((((5)))))),5]", 3, 11);
        noLaw("least[5,((((((5))))))]", 3, 13);
        law("least[(((((5))))),(((((4)))))]", 4);
        work("again 1[again 1[again 1[again 1[again 1[again 1[ease 1;];];];];];];", 1, 0);
        noWork("again 1[".repeat(6) + " again 1[", 3, 49);
        noWork("again 1[".repeat(6) + "];again 1[];again 41[", 2, 66);
        work("again 1[];".repeat(7), 0, 0);
    }

    static void all() {
        clauses();
        netClauses();
        leftOut();
        laws();
        terms();
        works();
        books();
        tokens();
        faults();
    }
}
