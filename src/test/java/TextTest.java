/** Promises 15 and 16: THE TAPE as a TEXT, and its FAULTS. */
public final class TextTest {
    private static final Check CHECK = new Check();

    public static void main(String[] args) {
        lays();
        loose();
        cantStand();
        numbers();
        cables();
        tables();
        nothingIsDone();
        cutShort();
        full();
        answersOfFault();
        CHECK.finish();
    }

    /** A TEXT on a new object: how many lines, or its FAULT and the place of it. */
    private static void good(String text, int lines) {
        SpaceLinks x = new SpaceLinks();
        CHECK.due("text \"" + text + "\"", lines, Check.text(x, text));
        CHECK.due("fault(0) of \"" + text + "\"", 0, x.fault(0));
        CHECK.due("fault(1) of \"" + text + "\"", -1, x.fault(1));
        CHECK.due("THE TAPE behind \"" + text + "\"", 0, x.look(14));
    }

    private static void bad(String text, int fault, int place) {
        bad(new SpaceLinks(), text, fault, place);
    }

    private static void bad(SpaceLinks x, String text, int fault, int place) {
        CHECK.due("text \"" + text + "\"", -1, Check.text(x, text));
        CHECK.due("fault(0) of \"" + text + "\"", fault, x.fault(0));
        CHECK.due("fault(1) of \"" + text + "\"", place, x.fault(1));
        CHECK.due("THE TAPE behind \"" + text + "\"", 0, x.look(14));
    }

    private static void lays() {
        SpaceLinks x = new SpaceLinks();
        CHECK.due("text", 4, Check.text(x, "cable 0.1 e7;cable 3.7 1.1;table 3 95 go 7 1;table 0 32 stay 2;"));
        CHECK.due("other of 1", 39, x.socket(1, 2));
        CHECK.due("other of 39", 1, x.socket(39, 2));
        CHECK.due("other of 31", 9, x.socket(31, 2));
        CHECK.due("WHOLE", 1, x.socket(31, 3));
        CHECK.due("RESET at once", 1, x.socket(9, 0));
        CHECK.due("TABLE of 3", 256 + 128 + 2, x.tableOf(3, 95));
        CHECK.due("TABLE of 0", 4, x.tableOf(0, 32));
        CHECK.due("text beside it", 2, Check.text(x, "cable e0 e1;table 3 94 stay 1 2 3 4 5 6 7;"));
        CHECK.due("CABLES", 3, x.look(1));
        CHECK.due("the other TABLE of 3 stays", 256 + 128 + 2, x.tableOf(3, 95));
        CHECK.due("the TABLE of 0 stays", 4, x.tableOf(0, 32));
        CHECK.due("TABLE of 3", 254, x.tableOf(3, 94));
    }

    private static void loose() {
        good("", 0);
        good("   ", 0);
        good("cable e0 e1;", 1);
        good("cable0.1e1;", 1);
        good("  cable  e 0  e  1  ;  ", 1);
        good("cable 0.1 0 . 2 ;", 1);
        good("cable e0e1;", 1);
        good("cable 00.01 e007;", 1);
        good("table 0 32go1;", 1);
        good("table 0 032 stay 1 02 3;", 1);
        good("cable e0 e1;table 0 32 go 1;cable e2 e3;", 3);
        good("cable e0 00000000000000000000000000000000.1;", 1);
    }

    private static void cantStand() {
        bad(";", 1, 0);
        bad("  ;", 1, 2);
        bad("cable", 1, 5);
        bad("cable ", 1, 6);
        bad("cables e0 e1;", 1, 0);
        bad("cabl e0 e1;", 1, 0);
        bad("cablee0 e1;", 1, 0);
        bad("cablez e0 e1;", 1, 0);
        bad("acable e0 e1;", 1, 0);
        bad(" Cable e0 e1;", 1, 1);
        bad("cable ee0 e1;", 1, 6);
        bad("cable f0 e1;", 1, 6);
        bad("cable e0;", 1, 8);
        bad("cable e0 e1", 1, 11);
        bad("cable e0 e1 ", 1, 12);
        bad("cable e0 e1 e2;", 1, 12);
        bad("cable e e1;", 1, 8);
        bad("cable 0 1 e1;", 1, 8);
        bad("cable 0, e1;", 1, 7);
        bad("cable 0.e0 e1;", 1, 8);
        bad("cable .1 e1;", 1, 6);
        bad("cable e0 e1;;", 1, 12);
        bad("cable e0 e1; 7", 1, 13);
        bad("table 0 32 go;", 1, 13);
        bad("table 0 32 1;", 1, 11);
        bad("table 0 32 gone 1;", 1, 11);
        bad("table 0 32 go 1 e;", 1, 16);
        bad("table 0 32 go 1,2;", 1, 15);
        bad("table 0 go 1;", 1, 8);
        bad("table e0 32 go 1;", 1, 6);
        bad("table 0 32 stay 1 2 3 4 5 6 7", 1, 29);
        bad("cable\te0 e1;", 1, 5);
        bad("cable e0 e1;" + (char) 0, 1, 12);
        bad("cable e0 e1;" + (char) 233, 1, 12);
    }

    private static void numbers() {
        bad("cable e8 e1;", 2, 7);
        bad("cable 0.10.2;", 2, 8);
        bad("cable e0 e10;", 2, 10);
        bad("cable 4.1 e1;", 2, 6);
        bad("cable 3.0 e1;", 2, 8);
        bad("cable 3.8 e1;", 2, 8);
        bad("cable 9 e1;", 2, 6);
        bad("cable e4294967296 e1;", 2, 7);
        bad("cable e18446744073709551617 e1;", 2, 7);
        bad("table 4 32 go 1;", 2, 6);
        bad("table 0 31 go 1;", 2, 8);
        bad("table 0 96 go 1;", 2, 8);
        bad("table 0 32 go 0;", 2, 14);
        bad("table 0 32 go 8;", 2, 14);
        bad("table 0 32 go 1 9;", 2, 16);
        bad("table 0 32 go 1 12 2;", 2, 16);
        good("cable e7 3.7;", 1);
        good("table 3 95 go 7;", 1);
    }

    private static void cables() {
        bad("cable e0 e0;", 3, 9);
        bad("cable 0.1  0 .1;", 3, 11);
        bad("cable e0 e1;cable e2 e1;", 3, 21);
        bad("cable e0 e1;cable 0.1 0.2;cable 0.2 e3;", 3, 32);
        SpaceLinks x = new SpaceLinks();
        x.plug(32, 9);
        bad(x, "cable e1 e0;", 3, 9);
        bad(x, "cable 1.1 e0;", 3, 6);
        bad(x, "cable 1.1 e9;", 3, 6);
        bad(x, "cable e1 e2;cable  1.1", 3, 19);
        x.unplug(9);
        CHECK.due("a SOCKET that is free again", 1, Check.text(x, "cable e0 e1;"));
    }

    private static void tables() {
        bad("table 0 32 go 1 2 1;", 4, 18);
        bad("table 0 32 go 1 2 3 4 5 6 7 7;", 4, 28);
        bad("table 0 32 go 1;table 0 032 stay 2;", 4, 24);
        good("table 0 32 go 1;table 1 32 stay 2;table 0 33 go 1;", 3);
        SpaceLinks x = new SpaceLinks();
        x.table(2, 40, 6, true);
        bad(x, "table 2 40 go 1;", 4, 8);
        bad(x, "table 2 40 went 9;", 4, 8);
        x.table(2, 40, 0, true);
        CHECK.due("a TABLE that is no more", 1, Check.text(x, "table 2 40 go 1;"));
    }

    private static void nothingIsDone() {
        SpaceLinks x = new SpaceLinks();
        bad(x, "cable e0 e1;table 0 32 go 1;cable e2 e8;", 2, 38);
        CHECK.due("no CABLE", 0, x.look(1));
        CHECK.due("no TABLE", 0, x.router(0, 9));
        CHECK.due("what was told badly is not told", 2, Check.text(x, "cable e0 e1;table 0 32 go 1;"));
    }

    /** What end() took away is not read. */
    private static void cutShort() {
        int[] lengths = {4, 5, 7, 8, 10, 11, 14, 16, 19, 22, 24};
        int[] places = {0, 5, 7, 8, 10, 11, 13, 13, 19, 21, 24};
        for (int k = 0; k < lengths.length; k++) {
            SpaceLinks x = new SpaceLinks();
            Check.text(x, "table 3 95 stay 7 6 5 4 3 2 1; cable e4 e5; cable 3.1 3.2;  ");
            Check.tape(x, "cable e0 0.1;table 3 40 go 1  ;".chars().toArray());
            x.end(lengths[k]);
            CHECK.due("cut to " + lengths[k], -1, x.text());
            CHECK.due("fault(1), cut to " + lengths[k], places[k], x.fault(1));
        }
        SpaceLinks x = new SpaceLinks();
        Check.tape(x, "cable e0 0.1;table 3 40 go 12;".chars().toArray());
        x.end(13);
        CHECK.due("cut to a line", 1, x.text());
    }

    /** THE TAPE is full to its last byte. */
    private static void full() {
        good("cable e0 e1;" + " ".repeat(388), 1);
        good(" ".repeat(388) + "cable e0 e1;", 1);
        bad(" ".repeat(389) + "cable e0 e1", 1, 400);
        bad(" ".repeat(390) + "cable e0 9", 2, 399);
        bad(" ".repeat(395) + "cable", 1, 400);
        bad(" ".repeat(396) + "cabl", 1, 396);
        bad(" ".repeat(394) + "cable ", 1, 400);
        bad("cable e0 e1" + " ".repeat(389), 1, 400);
        bad("cable e" + "9".repeat(393), 2, 7);
    }

    private static void answersOfFault() {
        SpaceLinks x = new SpaceLinks();
        CHECK.due("fault(0) at first", 0, x.fault(0));
        CHECK.due("fault(1) at first", -1, x.fault(1));
        bad(x, "x", 1, 0);
        CHECK.due("fault(2)", -1, x.fault(2));
        CHECK.due("fault(-1)", -1, x.fault(-1));
        Check.text(x, "");
        CHECK.due("fault(0) of the latest", 0, x.fault(0));
        CHECK.due("fault(1) of the latest", -1, x.fault(1));
    }
}
