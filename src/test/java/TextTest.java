/** Promises 1 to 8: the tape, the four kinds of texts, their faults, and work undone. */
public final class TextTest {
    private static final int WRONG = Kit.WRONG;

    private static void boardFault(String text, int kind, int at) {
        Kit k = new Kit();
        Kit.due("board " + text, kind - 10, () -> k.board(text));
        Kit.due("fault of board " + text, at, () -> k.wires.fault());
        Kit.due("bytes behind board " + text, 0, () -> k.wires.count(1));
    }

    private static void boardFine(String text, int nets) {
        Kit k = new Kit();
        Kit.due("board " + text, nets, () -> k.board(text));
        Kit.due("fault of board " + text, -1, () -> k.wires.fault());
    }

    private static void lawFault(String text, int kind, int at) {
        Kit k = new Kit();
        k.law("7");
        Kit.due("law " + text, kind - 10, () -> k.law(text));
        Kit.due("fault of law " + text, at, () -> k.wires.fault());
        Kit.due("the law stays", 7, () -> k.wires.would(1, 1, 1, 1, 1, 1, 1, 1));
    }

    /** past 40, over 2, crit 3, round 5, wide 2, col 6, row 7, pins 1. */
    private static void lawValue(String text, int value) {
        Kit k = new Kit();
        Kit.due("law " + text, 1, () -> k.law(text));
        Kit.due("fault of law " + text, -1, () -> k.wires.fault());
        Kit.due("value of law " + text, value, () -> k.wires.would(40, 2, 3, 5, 2, 6, 7, 1));
    }

    private static Kit small() {
        Kit k = new Kit();
        k.board("size 3 2;net 4 9;net 0 9;pin 0 0 0;pin 0 2 1;");
        return k;
    }

    private static void workFault(String text, int kind, int at) {
        Kit k = small();
        Kit.due("work " + text, kind - 10, () -> k.work(text));
        Kit.due("fault of work " + text, at, () -> k.wires.fault());
        Kit.due("nothing is done by " + text, 0, () -> k.wires.told(8) + k.wires.told(3) + k.wires.count(2));
    }

    private static void workDone(String text, int done, int refused) {
        Kit k = small();
        Kit.due("work " + text, done, () -> k.work(text));
        Kit.due("refused by " + text, refused, () -> k.wires.told(11));
        Kit.due("fault of work " + text, -1, () -> k.wires.fault());
        Kit.due("to undo behind " + text, 1, () -> k.wires.count(2));
    }

    private static void bookFault(String text, int kind, int at) {
        Kit k = small();
        k.book("1 1 1;");
        Kit.due("book " + text, kind - 10, () -> k.book(text));
        Kit.due("fault of book " + text, at, () -> k.wires.fault());
        Kit.due("the book stays", 1, () -> k.wires.told(10));
    }

    private static void newObject() {
        Kit k = new Kit();
        Kit.due("W", 4, () -> k.wires.told(0));
        Kit.due("H", 4, () -> k.wires.told(1));
        Kit.due("nets", 0, () -> k.wires.told(2));
        Kit.due("gain", 1, () -> k.wires.told(9));
        Kit.due("walls", 0, () -> k.wires.told(12));
        Kit.due("all is done", 1, () -> k.wires.told(6));
        Kit.due("no fault", -1, () -> k.wires.fault());
        Kit.due("width", 1, () -> k.wires.place(3, 3, 0));
        for (int what = 0; what < 3; what++) {
            int w = what;
            Kit.due("count " + w, 0, () -> k.wires.count(w));
        }
        Kit.due("refused calls", 0, () -> k.wires.status(0) + k.wires.status(1));
        // 1 + (40 + 2 * (5 + 3)) * (10 - 3) / 10 = 1 + 392 / 10
        Kit.due("the law without one", 40, () -> k.wires.would(40, 2, 3, 5, 2, 6, 7, 1));
    }

    private static void tape() {
        Kit k = new Kit();
        for (int i = 1; i <= 30; i++) {
            int due = 20 * i;
            Kit.due("feed " + i, due, () -> k.wires.feed(0x20202020, 0x20202020, 0x20202020, 0x20202020, 0x20202020));
        }
        Kit.due("one feed too many", -1, () -> k.wires.feed(1, 2, 3, 4, 5));
        Kit.due("bytes", 600, () -> k.wires.count(1));
        Kit.due("601 bytes", WRONG, () -> k.wires.board(601));
        Kit.due("a law of 151", WRONG, () -> k.wires.law(151));
        Kit.due("a work of 151", WRONG, () -> k.wires.work(151));
        Kit.due("a book of 61", WRONG, () -> k.wires.book(61));
        Kit.due("-1 bytes", WRONG, () -> k.wires.board(-1));
        Kit.due("-1 bytes of law", WRONG, () -> k.wires.law(-1));
        Kit.due("-1 bytes of work", WRONG, () -> k.wires.work(-1));
        Kit.due("-1 bytes of book", WRONG, () -> k.wires.book(-1));
        Kit.due("they stay", 600, () -> k.wires.count(1));
        Kit.due("600 blanks", 0, () -> k.wires.board(600));
        Kit.due("gone", 0, () -> k.wires.count(1));
        Kit.due("more than is there", WRONG, () -> k.wires.board(1));
        Kit.due("highest byte first", 20, () -> k.wires.feed(0x6761696e, 0x20373bff, -1, -1, -1));
        Kit.due("gain 7;", 0, () -> k.wires.board(7));
        Kit.due("gain", 7, () -> k.wires.told(9));
        Kit.due("the rest is gone, too", 0, () -> k.wires.count(1));
        k.feed("1");
        Kit.due("a law of 21 of 20", WRONG, () -> k.wires.law(21));
        Kit.due("a law of 20 of 20", 1, () -> k.wires.law(20));
        k.feed(" ".repeat(160));
        Kit.due("a work of 150", 0, () -> k.wires.work(150));
        k.feed(" ".repeat(160));
        Kit.due("a law of 150 blanks", -9, () -> k.wires.law(150));
        Kit.due("at the length", 150, () -> k.wires.fault());
        k.feed(" ".repeat(160));
        Kit.due("a book of 60", 0, () -> k.wires.book(60));
    }

    private static void boards() {
        boardFine("", 0);
        boardFine("   ", 0);
        boardFine("size4 4;net0 0 ;  pin 0 3 3 ; ", 1);
        boardFine("net 09 0060;pin 000000000000000000000 1 1;", 1);
        boardFine("net 0 0;".repeat(6), 6);
        boardFine("gain 0;".repeat(60), 0);
        boardFault("gain 0;".repeat(61), 3, 420);
        boardFault("gain 0;".repeat(60) + " gains;", 1, 421);
        boardFault("gain 0;".repeat(60) + ";", 1, 420);
        boardFine("gain 0;".repeat(60) + "  ", 0);
        boardFault("net 0 0;".repeat(6) + " net 0 0;", 3, 49);
        boardFault("net 0 0;" + "pin 0 0 0;".repeat(4) + "pin  0 9 9;", 3, 53);
        boardFine("size 2 2;net 0 0;" + "pin 0 7 7;".repeat(4), 1);
        boardFault("size 2 2;net 0 0;" + "pin 0 7 7;".repeat(4) + "pin 0 0 0;", 3, 61);
        boardFault("net 0 0;" + "pin 0 0 0;".repeat(4) + "pin 1 0 0;", 2, 52);
        boardFault("pin 0 0 0;net 0 0;", 2, 4);
        boardFault("size 1 4;", 2, 5);
        boardFault("size 9 4;", 2, 5);
        boardFault("size 4 1;", 2, 7);
        boardFault("size 4 99999999999999999999;", 2, 7);
        boardFault("size 4 4294967298;", 2, 7);
        boardFault("wall 8 0;", 2, 5);
        boardFault("wall 0 8;", 2, 7);
        boardFault("wide 8 0 1;", 2, 5);
        boardFault("wide 0 8 1;", 2, 7);
        boardFault("wide 0 0 0;", 2, 9);
        boardFault("wide 0 0 4;", 2, 9);
        boardFault("net 10 0;", 2, 4);
        boardFault("net 0 61;", 2, 6);
        boardFault("net 0 0;pin 0 8 0;", 2, 14);
        boardFault("net 0 0;pin 0 0 8;", 2, 16);
        boardFault("gain 10;", 2, 5);
        boardFault("gain -1;", 1, 5);
        boardFault("gain;", 1, 4);
        boardFault("gain 1", 1, 6);
        boardFault("gain 1  ", 1, 8);
        boardFault("gain", 1, 4);
        boardFault("gain 1 2;", 1, 7);
        boardFault("gain 1;;", 1, 7);
        boardFault("Gain 1;", 1, 0);
        boardFault(" 1;", 1, 1);
        boardFault("\tgain 1;", 1, 0);
        boardFault("gain 1;\u0000", 1, 7);
        boardFault("gain 1;\u00ff", 1, 7);
        boardFault("gains 1;", 1, 0);
        boardFault("gai 1;", 1, 0);
        Kit k = new Kit();
        k.board("size 3 2;gain 4;");
        k.law("9");
        k.book("0 0 0;");
        k.work("ease 1;");
        k.wires.image();
        Kit.due("a board with a fault", -9, () -> k.board("gain 1;net"));
        Kit.due("all stays: W", 3, () -> k.wires.told(0));
        Kit.due("all stays: the gain", 4, () -> k.wires.told(9));
        Kit.due("all stays: the law", 9, () -> k.wires.would(0, 0, 0, 0, 1, 0, 0, 0));
        Kit.due("all stays: the book", 1, () -> k.wires.told(10));
        Kit.due("all stays: images, works", 2, () -> k.wires.count(0) + k.wires.count(2));
        Kit.due("a board behind a fault", 0, () -> k.board(""));
        Kit.due("no law", 1, () -> k.wires.would(0, 0, 0, 0, 1, 0, 0, 0));
        Kit.due("no book", 0, () -> k.wires.told(10));
        Kit.due("no images, nothing to undo", 0, () -> k.wires.count(0) + k.wires.count(2));
        Kit.due("undo", -1, () -> k.wires.undo());
        Kit.due("restore", -1, () -> k.wires.restore());
        Kit.due("W without", 4, () -> k.wires.told(0));
        Kit.due("the gain without", 1, () -> k.wires.told(9));
    }

    private static void leftOut() {
        Kit k = new Kit();
        k.board("wall 5 5;wide 3 1 2;wide 3 1 3;wall 0 0;size 7 7;net 3 8;pin 0 6 6;pin 0 2 1;pin 0 0 0;"
                + "pin 0 2 1;wall 2 1;wall 1 1;wall 1 1;gain 2;gain 5;size 4 2;");
        Kit.due("W as told last", 4, () -> k.wires.told(0));
        Kit.due("H as told last", 2, () -> k.wires.told(1));
        Kit.due("pins that are left", 2, () -> k.wires.net(0, 2));
        Kit.due("walls that are left", 1, () -> k.wires.told(12));
        Kit.due("no wall at a pin", 0, () -> k.wires.place(2, 1, 3));
        Kit.due("no wall at a pin told behind it", 0, () -> k.wires.place(0, 0, 3));
        Kit.due("a wall", 1, () -> k.wires.place(1, 1, 3));
        Kit.due("the width told last", 3, () -> k.wires.place(3, 1, 0));
        Kit.due("the gain told last", 5, () -> k.wires.told(9));
        k.work("lay 0;");
        Kit.due("the root is the first pin that is left", 4, () -> k.wires.parent(0, 2, 1));
    }

    private static void laws() {
        lawValue(" 12 ", 12);
        lawValue("past", 40);
        lawValue("over", 2);
        lawValue("crit", 3);
        lawValue("round", 5);
        lawValue("wide", 2);
        lawValue("col", 6);
        lawValue("row", 7);
        lawValue("pins", 1);
        lawValue("0009", 9);
        lawValue("0", 1);
        lawValue("1-2", 1);
        lawValue("past*past", 999);
        lawValue("100-10-1", 89);
        lawValue("100/10/5", 2);
        lawValue("2+3*4", 14);
        lawValue("(2+3)*4", 20);
        lawValue("7*9%8", 7);
        lawValue("9-past/7*7", 1);
        lawValue("20+(3-10)/2", 17);
        lawValue("20+(3-10)%4", 17);
        lawValue("20+7%(0-4)", 23);
        lawValue("20+7/0", 20);
        lawValue("20+7%0", 20);
        lawValue("20+(0-7)/(1-1)", 20);
        lawValue("least[5,9]+most[5,9]*10", 95);
        lawValue("least [ 3 - 9 , 2 ] + 10", 4);
        lawValue("most[3-9,2]", 2);
        // 46341 * 46341 wraps to -2147479015
        lawValue("20-(999*46+387)*(999*46+387)/(999*999)", 999);
        lawValue("(999*46+387)*(999*46+387)/(0-999)/999", 999);
        lawValue("(999*46+387)*(999*46+387)/999/999", 1);
        lawValue("((((((7))))))", 7);
        lawValue("((((((1))))))+((((((2))))))", 3);
        lawValue("least[most[least[most[least[(8),9],1],9],1],9]", 8);
        lawFault("", 1, 0);
        lawFault("  ", 1, 2);
        lawFault("1000", 2, 0);
        lawFault("1 + 4294967297", 2, 4);
        lawFault("pasts", 1, 0);
        lawFault("Past", 1, 0);
        lawFault("1 2", 1, 2);
        lawFault("1 +", 1, 3);
        lawFault("1 + ", 1, 4);
        lawFault("1 + + 1", 1, 4);
        lawFault("-1", 1, 0);
        lawFault("(1", 1, 2);
        lawFault("(1]", 1, 2);
        lawFault("1)", 1, 1);
        lawFault("()", 1, 1);
        lawFault("least(1,2)", 1, 5);
        lawFault("least [1]", 1, 8);
        lawFault("least [1,2,3]", 1, 10);
        lawFault("most [1,2", 1, 9);
        lawFault("leastx[1,2]", 1, 0);
        lawFault("1;", 1, 1);
        lawFault("(((((((1)))))))", 3, 6);
        lawFault("((((((least[1,2]))))))", 3, 6);
        lawFault("(((((( most[", 3, 7);
        lawFault("least[1,((((( most", 3, 14);
        lawFault("least[((((((1", 3, 11);
    }

    private static void works() {
        workDone("", 0, 0);
        workDone(" ", 0, 0);
        workDone("round;", 1, 0);
        workDone("lay 0;lay 0;rip 0;rip 0;", 3, 1);
        workDone("lay 1;", 0, 1);
        workDone("crit 0 4;crit 0 5;crit 0 5;crit 0 4;", 2, 2);
        workDone("block 1 0;block 1 0;block 0 0;block 2 1;", 2, 2);
        workDone("ease 1;ease 99;", 2, 0);
        workDone("again 0 [round;];", 0, 0);
        workDone("again 3[];", 0, 0);
        workDone("again 3 [ round ; ] ; ", 3, 0);
        workDone("again 2[again 3[ease 1;];rip 0;];", 6, 2);
        workDone("again 1[again 1[again 1[again 1[again 1[again 1[ease 1;];];];];];];", 1, 0);
        workDone("again 1[again 1[];again 1[];];again 1[again 1[ease 1;];];", 1, 0);
        // 200 begun: the agains and the refused among them
        workDone("again 40[ease 1;ease 1;ease 1;ease 1;ease 1;];", 199, 0);
        workDone("again 40[rip 0;ease 1;again 0[];again 9[];ease 1;];lay 0;", 79, 40);
        workDone("again 40[again 40[again 40[];];];ease 1;", 0, 0);
        workFault("round", 1, 5);
        workFault("rounds;", 1, 0);
        workFault("round 1;", 1, 6);
        workFault("Round;", 1, 0);
        workFault("round;;", 1, 6);
        workFault("lay;", 1, 3);
        workFault("lay 0", 1, 5);
        workFault("lay 2;", 2, 4);
        workFault("rip 2;", 2, 4);
        workFault("crit 2 0;", 2, 5);
        workFault("crit 0 10;", 2, 7);
        workFault("block 3 0;", 2, 6);
        workFault("block 0 2;", 2, 8);
        workFault("ease 0;", 2, 5);
        workFault("ease 100;", 2, 5);
        workFault("again 41 [];", 2, 6);
        workFault("again [];", 1, 6);
        workFault("again 1 round;", 1, 8);
        workFault("again 1 [round;]", 1, 16);
        workFault("again 1 [round;", 1, 15);
        workFault("again 1 [round];", 1, 14);
        workFault("];", 1, 0);
        workFault("round;lay 0;]", 1, 12);
        workFault("again 1[".repeat(7), 3, 48);
        workFault("again 1[".repeat(6) + "agains", 1, 48);
        Kit k = new Kit();
        Kit.due("lay without nets", -8, () -> k.work("lay 0;"));
        Kit.due("block within 4 x 4", 1, () -> k.work("block 3 3;"));
    }

    private static void sixteenWorks() {
        Kit k = small();
        for (int i = 0; i < 16; i++) {
            Kit.due("work " + i, 1, () -> k.work("round;"));
        }
        Kit.due("a fault ahead of it", -9, () -> k.law("("));
        k.feed("x");
        Kit.due("the 17th", -20, () -> k.wires.work(1));
        Kit.due("no fault", -1, () -> k.wires.fault());
        Kit.due("the tape is empty", 0, () -> k.wires.count(1));
        Kit.due("nothing done", 16, () -> k.wires.told(3));
        Kit.due("a length that is none", WRONG, () -> k.wires.work(1));
        Kit.due("undo", 15, () -> k.wires.undo());
        Kit.due("the 16th again", 1, () -> k.work("crit 0 9;"));
        Kit.due("and no 17th", -20, () -> k.work("round;"));
        for (int i = 15; i >= 0; i--) {
            int left = i;
            Kit.due("undo to " + left, left, () -> k.wires.undo());
            Kit.due("the round then", left, () -> k.wires.told(3));
        }
        Kit.due("none is left", -1, () -> k.wires.undo());
    }

    private static void books() {
        Kit k = small();
        Kit.due("book", 3, () -> k.book("0 0 0;2 1 6; 1 0 3 ; "));
        Kit.due("lines", 3, () -> k.wires.told(10));
        Kit.due("an empty book", 0, () -> k.book(""));
        Kit.due("no lines", 0, () -> k.wires.told(10));
        bookFault("3 0 1;", 2, 0);
        bookFault("0 2 1;", 2, 2);
        bookFault("0 0 7;", 2, 4);
        bookFault("0 0 1;0 0 2;", 2, 8);
        bookFault("0 0 1;0  00 2;", 2, 9);
        bookFault("0 0 1", 1, 5);
        bookFault("0 0;", 1, 3);
        bookFault("x", 1, 0);
        bookFault(";", 1, 0);
        Kit wide = new Kit();
        wide.board("size 8 8;");
        String eight = "0 0 1;1 0 1;2 0 1;3 0 1;4 0 1;5 0 1;6 0 1;7 0 1;";
        Kit.due("eight lines", 8, () -> wide.book(eight));
        Kit.due("a ninth line", -7, () -> wide.book(eight + " 0 1 1;"));
        Kit.due("at its X", 49, () -> wide.wires.fault());
        Kit.due("a ninth line of no such X", -8, () -> wide.book(eight + "8 1 1;"));
        Kit.due("a ninth line of no X", -9, () -> wide.book(eight + ";"));
        Kit.due("the eight stay", 8, () -> wide.wires.told(10));
    }

    private static void faults() {
        Kit k = new Kit();
        Kit.due("a fault", -9, () -> k.law("1 +"));
        Kit.due("its place", 3, () -> k.wires.fault());
        Kit.due("a length that is none", WRONG, () -> k.wires.law(1));
        Kit.due("still of the latest text", 3, () -> k.wires.fault());
        Kit.due("a law", 1, () -> k.law("1"));
        Kit.due("without", -1, () -> k.wires.fault());
    }

    private static void undone() {
        Kit k = new Kit();
        k.board("size 3 3;wall 2 2;net 4 9;net 0 9;pin 0 0 0;pin 0 2 0;pin 1 0 0;pin 1 2 0;");
        k.work("round;");
        k.law("5");
        k.book("0 0 2;");
        k.work("block 2 2;block 0 2;crit 0 9;rip 1;ease 1;rip 1;");
        Kit.due("refused", 1, () -> k.wires.told(11));
        k.work("");
        Kit.due("refused by nothing", 0, () -> k.wires.told(11));
        Kit.due("undo of nothing", 2, () -> k.wires.undo());
        Kit.due("the wall is gone still", 0, () -> k.wires.place(2, 2, 3));
        Kit.due("undo of the second", 1, () -> k.wires.undo());
        Kit.due("a wall", 1, () -> k.wires.place(2, 2, 3));
        Kit.due("no wall", 0, () -> k.wires.place(0, 2, 3));
        Kit.due("crit", 4, () -> k.wires.net(0, 0));
        Kit.due("the tree", 5, () -> k.wires.net(1, 3));
        Kit.due("its uses", 2, () -> k.wires.place(2, 0, 1));
        Kit.due("histories", 1, () -> k.wires.place(2, 0, 2));
        Kit.due("nothing refused", 0, () -> k.wires.told(11));
        Kit.due("the law stays", 5, () -> k.wires.cost(0, 2, 2));
        Kit.due("the book stays", 1, () -> k.wires.told(10));
        Kit.due("undo of the first", 0, () -> k.wires.undo());
        Kit.due("round 0", 0, () -> k.wires.told(3));
        Kit.due("no trees", 0, () -> k.wires.told(8));
        Kit.due("no histories", 0, () -> k.wires.ahead(0, 3));
        Kit.due("undo", -1, () -> k.wires.undo());
        k.work("rip 0;");
        Kit.due("a work with a fault", -9, () -> k.work("rip 0"));
        Kit.due("is none", 1, () -> k.wires.told(11));
        k.board("");
        Kit.due("a new board, ahead of any work", 0, () -> k.wires.told(11));
    }

    public static void main(String[] args) {
        newObject();
        tape();
        boards();
        leftOut();
        laws();
        works();
        sixteenWorks();
        books();
        faults();
        undone();
        Kit.end("TextTest");
    }
}
