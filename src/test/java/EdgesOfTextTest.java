import java.util.Arrays;

/** Section 4, TEXT, sentence by sentence: what may stand where, and which FAULT is told at which place. */
public final class EdgesOfTextTest {
    private static final Check CHECK = new Check();

    public static void main(String[] args) {
        tapeIsFull();
        lines();
        wordsOfALine();
        cableOfTwo();
        tableOfMany();
        addresses();
        ports();
        sockets();
        words();
        numbers();
        blanks();
        besideWhatThereIs();
        firstByItsPlace();
        theEnd();
        atOnePlaceTheLeast();
        faultOne();
        faultTwo();
        hasACable();
        hadACable();
        toldTwice();
        tableThereIs();
        tableWasTold();
        portToldTwice();
        nothingIsDone();
        CHECK.finish();
    }

    private static SpaceLinks good(int lines, String text) {
        SpaceLinks x = new SpaceLinks();
        good(x, lines, text);
        return x;
    }

    private static void good(SpaceLinks x, int lines, String text) {
        CHECK.due("text \"" + text + "\"", lines, Check.text(x, text));
        CHECK.due("FAULT of \"" + text + "\"", 0, x.fault(0));
        CHECK.due("place in \"" + text + "\"", -1, x.fault(1));
        CHECK.due("THE TAPE behind it", 0, x.look(14));
    }

    private static void bad(int fault, int place, String text) {
        bad(new SpaceLinks(), fault, place, text);
    }

    private static void bad(SpaceLinks x, int fault, int place, String text) {
        int cables = x.look(1);
        CHECK.due("text \"" + text + "\"", -1, Check.text(x, text));
        CHECK.due("FAULT of \"" + text + "\"", fault, x.fault(0));
        CHECK.due("place in \"" + text + "\"", place, x.fault(1));
        CHECK.due("THE TAPE behind it", 0, x.look(14));
        CHECK.due("no CABLE more", cables, x.look(1));
    }

    private static void tapeIsFull() {
        CHECK.sentence("THE TAPE (400 bytes at most)");
        good(1, "cable e0 e1" + " ".repeat(388) + ";");
        bad(1, 400, "cable e0 e1" + " ".repeat(389));
        bad(1, 399, "cable e0 e1;" + " ".repeat(387) + "x");
        bad(2, 398, " ".repeat(388) + "cable e0 e99");
        bad(3, 397, " ".repeat(388) + "cable e0 e0;");
        good(1, "cable e" + "0".repeat(388) + "1 e2;");
        bad(1, 0, "x".repeat(400));
        bad(1, 0, "cable".repeat(80));
    }

    private static void lines() {
        CHECK.sentence("{ line \";\" }");
        good(0, "");
        good(1, "cable e0 e1;");
        good(2, "cable e0 e1;cable e2 e3;");
        StringBuilder most = new StringBuilder();
        for (int k = 0; k < 30; k++) {
            most.append("table0 ").append(32 + k).append("go1;");
        }
        SpaceLinks x = good(30, most.toString());
        CHECK.due("TABLES", 30, x.router(0, 9));
        bad(1, 11, "cable e0 e1");
        bad(1, 11, "cable e0 e1.");
        bad(1, 0, ";");
        bad(1, 12, "cable e0 e1;;");
        bad(1, 17, "cable e0 e1;cable");
        bad(1, 16, "cable e0 e1     cable e2 e3;");
    }

    private static void wordsOfALine() {
        CHECK.sentence("\"cable\" S S | \"table\" R A (\"go\" | \"stay\") P { P }");
        bad(1, 0, "e0 e1;");
        bad(1, 0, "0.1 0.2;");
        bad(1, 0, "go 1;");
        bad(1, 0, "stay;");
        bad(1, 0, "a;");
        bad(1, 0, ".");
        bad(1, 0, "7;");
        bad(1, 0, "able e0 e1;");
        bad(1, 0, "tables 0 32 go 1;");
        bad(1, 0, "tabl 0 32 go 1;");
    }

    private static void cableOfTwo() {
        CHECK.sentence("\"cable\" S S |");
        bad(1, 5, "cable;");
        bad(1, 8, "cable e0;");
        good(1, "cable e0 e1;");
        bad(1, 12, "cable e0 e1 e2;");
        bad(1, 12, "cable e0 e1 0.1;");
        bad(1, 10, "cable 0.1 ;");
        bad(1, 10, "cable 0.1 go;");
    }

    private static void tableOfMany() {
        CHECK.sentence("(\"go\" | \"stay\") P { P }");
        bad(1, 5, "table;");
        bad(1, 7, "table 0;");
        bad(1, 10, "table 0 32;");
        bad(1, 11, "table 0 32 1;");
        bad(1, 13, "table 0 32 go;");
        bad(1, 15, "table 0 32 stay;");
        CHECK.due("one P", 2, good(1, "table 0 32 stay 1;").tableOf(0, 32));
        CHECK.due("seven P", 254, good(1, "table 0 32 stay 7 6 5 4 3 2 1;").tableOf(0, 32));
        CHECK.due("the HEAD goes", 510, good(1, "table 0 32 go 1 2 3 4 5 6 7;").tableOf(0, 32));
        bad(4, 28, "table 0 32 go 1 2 3 4 5 6 7 1;");
        bad(1, 14, "table 0 32 go go 1;");
        bad(1, 16, "table 0 32 go 1 go 2;");
        bad(1, 17, "table 0 32 go 1  stay;");
    }

    private static void addresses() {
        CHECK.sentence("the TABLE of ROUTER R for A (32 .. 95)");
        bad(2, 8, "table 0 0 go 1;");
        bad(2, 8, "table 0 31 go 1;");
        CHECK.due("32", 258, good(1, "table 0 32 go 1;").tableOf(0, 32));
        CHECK.due("95", 258, good(1, "table 0 95 go 1;").tableOf(0, 95));
        bad(2, 8, "table 0 96 go 1;");
        bad(2, 8, "table 0 320 go 1;");
        CHECK.due("ROUTER 0", 258, good(1, "table 0 32 go 1;").tableOf(0, 32));
        CHECK.due("ROUTER 3", 258, good(1, "table 3 32 go 1;").tableOf(3, 32));
        bad(2, 6, "table 4 32 go 1;");
        bad(2, 6, "table 10 32 go 1;");
    }

    private static void ports() {
        CHECK.sentence("PORTS (1 .. 7), the HEAD goes or stays.");
        bad(2, 14, "table 0 32 go 0;");
        for (int port = 1; port <= 7; port++) {
            CHECK.due("PORT " + port, 1 << port, good(1, "table 0 32 stay " + port + ";").tableOf(0, 32));
        }
        bad(2, 14, "table 0 32 go 8;");
        bad(2, 16, "table 0 32 go 1 8;");
        bad(2, 16, "table 0 32 go 7 0;");
        bad(2, 14, "table 0 32 go 12;");
    }

    private static void sockets() {
        CHECK.sentence("S: \"e\" N (END) or R \".\" P.");
        CHECK.due("e0", 39, good(1, "cable e0 e7;").socket(32, 2));
        bad(2, 7, "cable e8 e1;");
        bad(2, 10, "cable e0 e8;");
        CHECK.due("0.1", 31, good(1, "cable 0.1 3.7;").socket(1, 2));
        bad(2, 6, "cable 4.1 e0;");
        bad(2, 9, "cable e0 4.7;");
        bad(2, 8, "cable 0.0 e0;");
        bad(2, 8, "cable 0.8 e0;");
        bad(2, 11, "cable e0 3.0;");
        bad(2, 11, "cable e0 3.8;");
        bad(1, 7, "cable 0;");
        bad(1, 7, "cable 1,1 e0;");
        bad(1, 8, "cable 1.e0;");
        bad(1, 8, "cable 1..1 e0;");
        bad(1, 6, "cable .1 e0;");
        bad(1, 7, "cable e.1 e0;");
        bad(1, 8, "cable e0.1 e0;");
        bad(1, 6, "cable x0 e0;");
    }

    private static void words() {
        CHECK.sentence("Words: small letters, as many as stand there");
        good(1, "cable e0e1;");
        good(1, "cable0.1e1;");
        bad(1, 0, "cablee0 e1;");
        bad(1, 0, "Cable e0 e1;");
        bad(1, 0, "CABLE e0 e1;");
        bad(1, 0, "cablE e0 e1;");
        bad(1, 0, "cab le e0 e1;");
        bad(1, 6, "cable E0 e1;");
        bad(1, 6, "cable ee0 e1;");
        bad(1, 6, "cable end0 e1;");
        bad(1, 11, "table 0 32 goes 1;");
        bad(1, 11, "table 0 32 g 1;");
        bad(1, 11, "table 0 32 sta 1;");
        bad(1, 11, "table 0 32 stays 1;");
        bad(1, 11, "table 0 32 Go 1;");
        bad(1, 13, "table 0 32 goO1;");
        bad(1, 13, "table 0 32 go`1;");
        bad(1, 13, "table 0 32 go{1;");
        good(1, "table0 32go1;");
    }

    private static void numbers() {
        CHECK.sentence("numbers: digits, as many as stand there");
        good(1, "cable e01 e002;");
        good(1, "table 00 095 go 0007;");
        bad(2, 10, "cable e0 e10;");
        bad(2, 8, "cable 0.12 e1;");
        bad(2, 7, "cable e01234567 e1;");
        bad(2, 7, "cable e4294967296 e1;");
        bad(2, 7, "cable e4294967297 e1;");
        bad(2, 8, "table 0 4294967328 go 1;");
        bad(2, 8, "table 0 18446744073709551648 go 1;");
        bad(1, 7, "cable e-1 e1;");
        bad(1, 7, "cable e+1 e1;");
        bad(1, 7, "cable e/ e1;");
        bad(1, 7, "cable e: e1;");
        bad(1, 8, "cable e0x1 e1;");
        bad(2, 14, "table 0 32 go 1234567;");
    }

    private static void blanks() {
        CHECK.sentence("blanks (32) may stand ahead of all these, and at the end.");
        good(0, " ");
        good(0, " ".repeat(400));
        good(1, "   cable   e   0   e   1   ;   ");
        good(1, " cable 0 . 1 3 . 7 ; ");
        good(1, " table 0 32 go 1 ; ");
        good(2, "cable e0 e1; cable e2 e3;");
        int[] others = {0, 9, 10, 13, 31, 33, 127, 160, 255};
        for (int other : others) {
            bad(1, 0, (char) other + "cable e0 e1;");
            bad(1, 5, "cable" + (char) other + "e0 e1;");
            bad(1, 8, "cable e0" + (char) other + "e1;");
            bad(1, 11, "cable e0 e1" + (char) other + ";");
            bad(1, 12, "cable e0 e1;" + (char) other);
        }
    }

    private static void besideWhatThereIs() {
        CHECK.sentence("What is told is told beside what there is.");
        SpaceLinks x = new SpaceLinks();
        x.plug(1, 2);
        x.table(0, 40, 6, true);
        x.broken(1, true);
        x.tick(3);
        good(x, 2, "cable e0 e1;table 0 41 stay 1;");
        CHECK.due("CABLES", 2, x.look(1));
        CHECK.due("BROKEN ones", 1, x.look(2));
        CHECK.due("the first stays", 2, x.socket(1, 2));
        CHECK.due("AGE of it", 1, x.socket(1, 1));
        CHECK.due("TABLES", 2, x.router(0, 9));
        CHECK.due("the first stays", 262, x.tableOf(0, 40));
        CHECK.due("a CABLE, WHOLE", 1, x.socket(32, 3));
        good(x, 0, "");
        CHECK.due("nothing is told: nothing changes", 2, x.look(1));
    }

    private static void firstByItsPlace() {
        CHECK.sentence("FAULTS, the first by its place (from 0;");
        bad(1, 0, "x e9 e9;");
        bad(1, 6, "cable x e9;");
        bad(2, 7, "cable e9 x;");
        bad(3, 9, "cable e0 e0 x");
        bad(2, 7, "cable e9 e9 e9");
        bad(2, 6, "table 9 99 gone 9 9;");
        bad(2, 8, "table 0 99 gone 9 9;");
        bad(1, 11, "table 0 32 gone 9 9;");
        bad(2, 14, "table 0 32 go 9 9;");
        bad(4, 16, "table 0 32 go 1 1 9;");
        bad(2, 16, "table 0 32 go 1 9 1;");
        bad(1, 12, "cable e0 e1;x cable e0 e1;");
        bad(3, 18, "cable e0 e1;cable e0 e9;");
        SpaceLinks x = new SpaceLinks();
        x.plug(32, 33);
        bad(x, 3, 6, "cable e0 e0;");
        bad(x, 3, 6, "cable e0 e1;");
        bad(x, 3, 9, "cable e2 e1 x;");
    }

    private static void theEnd() {
        CHECK.sentence("(from 0; the end: THE TAPE's length)");
        String text = "cable e0 3.1;table 2 40 go 1 2;";
        boolean[] isWhole = new boolean[text.length() + 1];
        isWhole[0] = true;
        isWhole[13] = true;
        isWhole[31] = true;
        // Where a word is cut in two, that can't stand there: its first byte, not the end.
        int[] halfOf = new int[text.length() + 1];
        Arrays.fill(halfOf, -1);
        for (int k = 1; k <= 4; k++) {
            halfOf[k] = 0;
            halfOf[13 + k] = 13;
        }
        halfOf[25] = 24;
        // A number that is cut in two can't be: 4.
        for (int cut = 0; cut <= text.length(); cut++) {
            String part = text.substring(0, cut);
            if (isWhole[cut]) {
                good(cut == 0 ? 0 : cut == 13 ? 1 : 2, part);
            } else if (cut == 22) {
                bad(2, 21, part);
            } else {
                bad(1, halfOf[cut] >= 0 ? halfOf[cut] : cut, part);
            }
        }
    }

    private static void atOnePlaceTheLeast() {
        CHECK.sentence("at one place the least:");
        // A PORT that can't be and that is told twice; a SOCKET that can't be in a line that told it already.
        bad(2, 14, "table 0 32 go 9 9;");
        bad(2, 16, "table 0 32 go 1 11;");
        SpaceLinks x = new SpaceLinks();
        x.plug(1, 33);
        bad(x, 2, 6, "cable 9.1 e0;");
        bad(x, 2, 6, "cable 00000009.1 e1;");
    }

    private static void faultOne() {
        CHECK.sentence("1 what can't stand there");
        bad(1, 6, "cable ;");
        bad(1, 9, "cable e0 ;");
        bad(1, 9, "cable e0 x1;");
        bad(1, 9, "cable e0 cable;");
        bad(1, 6, "table e0 32 go 1;");
        bad(1, 7, "table 0.1 32 go 1;");
        bad(1, 10, "table 0 32.1 go 1;");
        bad(1, 15, "table 0 32 go 1.2;");
        bad(1, 16, "table 0 32 go 1 e2;");
    }

    private static void faultTwo() {
        CHECK.sentence("2 a number that can't be");
        bad(2, 6, "cable 4.1 e1;");
        bad(2, 6, "cable 4;");
        bad(2, 6, "table 4");
        bad(2, 8, "table 0 31");
        bad(2, 7, "cable e8");
        bad(2, 8, "cable e 8");
        bad(2, 10, "cable 0 . 8");
    }

    private static void hasACable() {
        CHECK.sentence("3 a SOCKET that has a CABLE already");
        SpaceLinks x = new SpaceLinks();
        x.plug(1, 39);
        bad(x, 3, 6, "cable 0.1 e0;");
        bad(x, 3, 9, "cable e0 0.1;");
        bad(x, 3, 6, "cable e7 e0;");
        bad(x, 3, 9, "cable e0 e7;");
        bad(x, 3, 8, "cable   e 7 e0;");
        bad(x, 3, 8, "cable   0  .  1 e0;");
        bad(x, 3, 6, "cable 0.1 e7;");
        x.unplug(1);
        good(x, 1, "cable 0.1 e7;");
        bad(x, 3, 6, "cable 0.1 e7;");
    }

    private static void hadACable() {
        CHECK.sentence("or had, or is told twice in a line (at its first byte)");
        bad(3, 18, "cable e0 e1;cable e0 e2;");
        bad(3, 18, "cable e0 e1;cable e1 e2;");
        bad(3, 21, "cable e0 e1;cable e2 e0;");
        bad(3, 21, "cable e0 e1;cable e2 e1;");
        bad(3, 34, "cable e0 e1;cable 0.1 e2;cable e3 0.1;");
        good(3, "cable e0 e1;cable 0.1 e2;cable e3 1.1;");
    }

    private static void toldTwice() {
        CHECK.sentence("or is told twice in a line (at its first byte)");
        bad(3, 9, "cable e0 e0;");
        bad(3, 9, "cable e0 e00;");
        bad(3, 10, "cable 3.7 3.7;");
        bad(3, 10, "cable 3.7 03.07;");
        bad(3, 11, "cable e7   e 7;");
        good(1, "cable 3.7 3.6;");
        good(1, "cable 3.7 2.7;");
    }

    private static void tableThereIs() {
        CHECK.sentence("4 a TABLE that there is already");
        SpaceLinks x = new SpaceLinks();
        x.table(1, 50, 2, false);
        bad(x, 4, 8, "table 1 50 go 1;");
        bad(x, 4, 9, "table 1  050 stay 2;");
        good(x, 1, "table 0 50 go 1;");
        good(x, 1, "table 1 51 go 1;");
        x.table(1, 50, 0, false);
        good(x, 1, "table 1 50 go 2;");
        CHECK.due("TABLE", 260, x.tableOf(1, 50));
        bad(x, 4, 8, "table 1 50 go 2;");
    }

    private static void tableWasTold() {
        CHECK.sentence("or that was told (at A)");
        bad(4, 24, "table 0 32 go 1;table 0 32 go 1;");
        bad(4, 24, "table 3 95 go 1;table 3 95 stay 2;");
        good(3, "table 0 32 go 1;table 1 32 go 1;table 0 33 go 1;");
        bad(4, 24, "table 0 32 go 1;table 0 32");
        bad(4, 24, "table 0 32 go 1;table 0 32 x");
    }

    private static void portToldTwice() {
        CHECK.sentence("a PORT told twice in a line (at it)");
        bad(4, 16, "table 0 32 go 1 1;");
        bad(4, 18, "table 0 32 go 1 2 1;");
        bad(4, 20, "table 0 32 stay 7 2 07;");
        good(2, "table 0 32 go 1 2;table 0 33 go 1 2;");
        bad(4, 26, "table 0 32 go 7 6 5 4 3 2 7 1;");
    }

    private static void nothingIsDone() {
        CHECK.sentence("how many lines; NONE, and nothing is done, if there is a FAULT.");
        SpaceLinks x = Check.running("cable e6 e7;table 3 32 go 1;");
        bad(x, 1, 52, "cable e0 e1;cable 0.1 e2;table 0 32 go 1;cable e3 e4.");
        CHECK.due("CABLES", 1, x.look(1));
        CHECK.due("TABLES", 0, x.router(0, 9));
        CHECK.due("STATE", 0, x.socket(32, 0));
        good(x, 4, "cable e0 e1;cable 0.1 e2;table 0 32 go 1;cable e3 e4;");
        CHECK.due("CABLES", 4, x.look(1));
        CHECK.due("RESET", 1, x.socket(32, 0));
    }
}
