/** The section "Terms" of the document, sentence by sentence: what is read in tables and in streams. */
public final class RowsTest extends Checks {
    private static final String FREE_ROW = row(0, 0, 'f');
    private static final String BLANKS = "\0\t\n\f\r ";

    private static boolean isDigit(int b) {
        return b >= 48 && b <= 57;
    }

    private static void tokens() {
        sentence("A TABLE consists of TOKENS: it may have none", () -> {
            due("no bytes", toldOfTable(""), "");
            due("each blank alone", toldOfTable(BLANKS), "");
            due("300 blanks", toldOfTable(" ".repeat(300)), "");
            due("no objects", afterTable("").read(0), 0);
        });
        sentence("bytes that are no BLANKS (0, 9, 10, 12, 13, 32)", () -> {
            for (int b = 0; b < 256; b++) {
                String want = BLANKS.indexOf(b) >= 0 ? "" : isDigit(b) ? "4/0/3" : "4/0/0";
                due("byte " + b + " between two numbers", toldOfTable("0" + (char) b + "0"), want);
            }
        });
        sentence("BLANKS may stand anywhere, and many", () -> {
            CrossTables x = afterTable(BLANKS + "1" + BLANKS + "1" + BLANKS + "7" + BLANKS + "8" + BLANKS + "f" + BLANKS);
            due("a beginning and a row", x.kind(1) + "/" + counting(x, 1), "1/7/8");
        });
        sentence("each as long as can be", () -> {
            due("a number and its sign", toldOfTable("0 1 0 0n "), "4/0/6");
            due("two signs", toldOfTable("0 1 0 0 nf "), "4/0/4");
            due("a sign and a number", toldOfTable("0 1 0 0 n0 "), "4/0/4");
            CrossTables x = afterTable("12 1 345 67 f");
            due("numbers of many digits", x.kind(12) + "/" + counting(x, 12), "1/345/67");
        });
        sentence("a NUMBER is one of 1 to 10 DIGITS", () -> {
            due("1", toldOfTable("9 0"), "");
            due("10, the first", toldOfTable("9999999999 0"), "");
            due("10, the second", toldOfTable("0 0000000000"), "");
            due("11, the first", toldOfTable("00000000000 0"), "4/0/0");
            due("11, the second", toldOfTable("0 00000000000"), "4/0/2");
            due("11, a row's first", toldOfTable("0 1 00000000000 0 f"), "4/0/4");
            due("11, a row's second", toldOfTable("0 1 0 00000000000 f"), "4/0/6");
            due("297", toldOfTable("1".repeat(297) + " 0"), "4/0/0");
        });
        sentence("DIGITS (48 .. 57)", () -> {
            for (int b = 0; b < 256; b++) {
                boolean isOne = isDigit(b) || BLANKS.indexOf(b) >= 0;
                due("byte " + b + " behind a digit", toldOfTable("0" + (char) b + " 0").isEmpty() ? 1 : 0, isOne ? 1 : 0);
                due("byte " + b + " before a digit", toldOfTable((char) b + "0 0").isEmpty() ? 1 : 0, isOne ? 1 : 0);
            }
            CrossTables x = afterTable("0 1 1234567890 9876543210 f");
            due("each digit", counting(x, 0), "1234567890/9876543210");
        });
    }

    private static void tableRows() {
        sentence("behind them the TOKEN n (110) or f (102), are a ROW", () -> {
            for (int b = 0; b < 256; b++) {
                String want = b == 'n' || b == 'f' ? "3/0/4" : "4/0/4";
                CrossTables x = afterTable("1 1 0 0 " + (char) b);
                String got = allTold(x);
                due("byte " + b, got.startsWith(want) ? 1 : 0, 1);
                due("byte " + b + ": a row", x.revision(1, -1), want.startsWith("3") ? 1 : 0);
            }
        });
        sentence("a place (f: the next free object) and a GENERATION, n of one that is USED, f of one that is FREE", () -> {
            CrossTables x = new CrossTables();
            table(x, 0, -1, "1 2 " + row(17, 3, 'n') + row(4, 65535, 'f'));
            x.head(17, 1, 3);
            due("read", x.read(0), 2);
            due("kinds", kinds(x, 0, 3), "0210");
            due("n", counting(x, 1), "17/3");
            due("f", counting(x, 2), "4/65535");
        });
        sentence("the highest place and GENERATION", () -> {
            CrossTables x = afterTable("1 2 9999999999 9999999999 n 9999999999 9999999999 f");
            due("n", x.kind(1) + "/" + counting(x, 1), "4/9999999999/9999999999");
            due("f", x.kind(2) + "/" + counting(x, 2), "1/9999999999/9999999999");
        });
        sentence("of the object whose turn it is", () -> {
            CrossTables x = afterTable("7 3 1 0 f 2 0 f 3 0 f 2 1 4 0 f 99 1 5 0 f 0 1 6 0 f");
            due("one behind the other", x.place(7, 0) + "/" + x.place(8, 0) + "/" + x.place(9, 0), "1/2/3");
            due("by a beginning", x.place(2, 0) + "/" + x.place(99, 0) + "/" + x.place(0, 0), "4/5/6");
            due("no other", kinds(x, 0, 11), "101000011100");
        });
        sentence("Two others are a BEGINNING: how many ROWS are due, none", () -> {
            due("at the end", toldOfTable("0 0"), "");
            due("two of them", toldOfTable("0 0 7 0 "), "");
            CrossTables x = afterTable("3 0 5 1 " + FREE_ROW + "9 0");
            due("between others", kinds(x, 3, 5) + allTold(x), "001");
        });
        sentence("how many ROWS are due (at most 100)", () -> {
            due("100", toldOfTable("0 100 " + FREE_ROW), "4/0/26");
            due("101", toldOfTable("0 101 " + FREE_ROW), "4/0/0");
        });
        sentence("a full table: 300 bytes", () -> {
            CrossTables x = afterTable("86 14" + " ".repeat(15) + FREE_ROW.repeat(14));
            due("rows to its end", kinds(x, 85, 99) + allTold(x), "011111111111111");
            CrossTables y = afterTable("50 49" + " 0 0 f".repeat(49) + " ");
            due("most rows", kinds(y, 49, 99), "0" + "1".repeat(49) + "0");
            due("most rows: all are odd", y.told(-1, 0), 49);
        });
    }

    private static void wrongInTables() {
        sentence("Wrong is a TOKEN that is no NUMBER where one must stand", () -> {
            due("a beginning's first", toldOfTable(" trailer"), "4/0/1");
            due("a beginning's second", toldOfTable("0 x 0"), "4/0/2");
            due("a sign, a beginning's first", toldOfTable("n 0 0"), "4/0/0");
            due("a sign, a beginning's second", toldOfTable("0 f 0"), "4/0/2");
            due("a row's first", toldOfTable("0 1 -1 0 f"), "4/0/4");
            due("a row's second", toldOfTable("0 1 1 0x f"), "4/0/6");
            due("a row's third is no number's place", toldOfTable("0 1 1 0 x"), "4/0/4");
            due("behind a row, one due", toldOfTable("0 2 " + FREE_ROW + "f"), "4/0/24");
            due("behind a row, none due", toldOfTable("0 1 " + FREE_ROW + "trailer"), "4/0/24");
            due("at the last of 300 bytes", toldOfTable(" ".repeat(299) + "x"), "4/0/299");
        });
        sentence("or (its first NUMBER) a ROW when none is due", () -> {
            due("first of all", toldOfTable(" " + FREE_ROW), "4/0/1");
            due("behind a beginning of none", toldOfTable("0 0 " + FREE_ROW), "4/0/4");
            due("behind the last one due", toldOfTable("0 1 " + FREE_ROW + FREE_ROW), "4/0/24");
            due("one that is no row of 20 bytes", toldOfTable("0 0 n"), "4/0/0");
            due("one whose second number is above 100", toldOfTable("0 65535 f"), "4/0/0");
        });
        sentence("a BEGINNING when one is", () -> {
            due("behind a beginning", toldOfTable("0 1 0 1 " + FREE_ROW), "4/0/4");
            due("behind a row", toldOfTable("0 2 " + FREE_ROW + "5 1 " + FREE_ROW), "4/0/24");
            due("of none", toldOfTable("0 1 0 0 9 0"), "4/0/4");
            due("at the end", toldOfTable("0 1 0 0"), "4/0/4");
            due("at the end, with blanks", toldOfTable("0 1 \n0 0 \n"), "4/0/5");
        });
        sentence("or with more than 100 due", () -> {
            due("101", toldOfTable("0 101"), "4/0/0");
            due("the highest", toldOfTable("  0 9999999999 "), "4/0/2");
            due("2 to the 32nd, which an int wraps to 0", toldOfTable("0 4294967296 "), "4/0/0");
            due("and 1 more", toldOfTable("0 4294967297 " + FREE_ROW), "4/0/0");
            due("2 to the 31st, which an int wraps below 0", toldOfTable("0 2147483648 "), "4/0/0");
            due("behind another", toldOfTable("0 0 0 101"), "4/0/4");
        });
        sentence("or the end when a NUMBER must come", () -> {
            due("a beginning's second", toldOfTable("0"), "4/0/1");
            due("a beginning's second, with blanks", toldOfTable("0 \n"), "4/0/3");
            due("a row's second", toldOfTable("0 1 0"), "4/0/5");
            due("a row's second, with blanks", toldOfTable("0 1 0 \n"), "4/0/7");
            due("in 300 bytes", toldOfTable("0" + " ".repeat(299)), "4/0/300");
        });
        sentence("or the end when a ROW must come", () -> {
            due("the first", toldOfTable("0 1"), "4/0/3");
            due("the first, with blanks", toldOfTable("0 1 \n"), "4/0/5");
            due("the second", toldOfTable("0 2 " + FREE_ROW), "4/0/24");
            due("in 300 bytes", toldOfTable("0 15" + " ".repeat(16) + FREE_ROW.repeat(14)), "4/0/300");
            due("of an object above 99", toldOfTable("100 1 "), "4/0/6");
        });
        sentence("the end when nothing must come is not wrong", () -> {
            due("behind a row", toldOfTable("0 1 " + FREE_ROW), "");
            due("behind a beginning of none", toldOfTable("0 0 \n"), "");
        });
        sentence("nothing behind is read", () -> {
            String more = " 1 1 " + FREE_ROW;
            String[] bad = {"x", "0 x", "0 0 f", "0 101", "0 1 5 1"};
            for (String wrong : bad) {
                CrossTables x = afterTable("2 1 " + FREE_ROW + wrong + more + "y");
                due("told once: " + wrong, x.told(-1, 0), 1);
                due("rows before alone: " + wrong, kinds(x, 0, 5), "001000");
            }
        });
        sentence("nothing behind is read: in that TABLE, but THE CHAIN goes on", () -> {
            CrossTables x = new CrossTables();
            table(x, 0, 1, "x");
            table(x, 1, -1, "1 1 " + FREE_ROW);
            stream(x, 2, -1, 0, 0, 0, 0);
            x.run(2, 2, 1);
            x.beside(0, 2);
            due("read", x.read(0), 2);
            due("told", allTold(x), "4/0/0");
        });
    }

    private static void oddRows() {
        String bare = "0000000000 00000 f";
        sentence("A ROW is ODD if the next TOKEN is not 20 bytes behind its first one's beginning", () -> {
            due("19", toldOfTable("0 2 " + bare + "\n" + FREE_ROW), "3/0/4");
            due("20", toldOfTable("0 2 " + bare + "\r\n" + FREE_ROW), "");
            due("21", toldOfTable("0 2 " + bare + " \r\n" + FREE_ROW), "3/0/4");
            due("20, of short numbers", toldOfTable("0 2 0 0 f" + " ".repeat(15) + FREE_ROW), "");
            due("20, blanks between", toldOfTable("0 2 0" + " ".repeat(15) + "0 f 0 0 f"), "3/0/24");
            due("a beginning behind it", toldOfTable("0 1 " + bare + "\n0 0"), "3/0/4");
            due("a wrong one behind it", toldOfTable("0 1 " + bare + "\nx"), "3/0/4 4/0/23");
            due("40", toldOfTable("0 2 " + FREE_ROW + " ".repeat(20) + FREE_ROW), "3/0/4");
        });
        sentence("or the end, is not 20 bytes behind", () -> {
            due("18", toldOfTable("0 1 " + bare), "3/0/4");
            due("19", toldOfTable("0 1 " + bare + "\n"), "3/0/4");
            due("20", toldOfTable("0 1 " + bare + "\r\n"), "");
            due("21", toldOfTable("0 1 " + bare + " \r\n"), "3/0/4");
            due("18, one due behind it", toldOfTable("0 2 " + bare), "3/0/4 4/0/22");
        });
        sentence("3 an ODD ROW (the SECTION; where it begins)", () -> {
            CrossTables x = new CrossTables();
            x.section(1, 1, -1);
            table(x, 0, -1, "\n0 3 0 0 f " + FREE_ROW + "0 0 f");
            x.read(0);
            due("the first and the third", allTold(x), "3/1/5 3/1/31");
            due("they tell, too", kinds(x, 0, 2), "111");
        });
        sentence("3 an ODD ROW: of an object above 99, too", () -> {
            due("101", toldOfTable("100 2 " + FREE_ROW + "0 0 f"), "3/0/26");
        });
    }

    /** A stream at place 0 with a run of objects from 1 on. */
    private static CrossTables streamOf(int a, int b, int c, int many, int... bytes) {
        CrossTables x = new CrossTables();
        stream(x, 0, -1, bytes);
        x.widths(0, a, b, c);
        x.run(0, 1, many);
        x.read(0);
        return x;
    }

    private static void streamFields() {
        sentence("A STREAM has WIDTHS a, b, c (at first 1, 2, 1)", () -> {
            CrossTables x = new CrossTables();
            stream(x, 0, -1, 2, 1, 2, 3, 0, 4, 5, 6, 1, 7, 8);
            x.run(0, 1, 3);
            due("read", x.read(0), 2);
            due("the first row", x.kind(1) + "/" + counting(x, 1), "3/258/3");
            due("the second row", x.kind(2) + "/" + counting(x, 2), "1/1029/6");
            due("the third has no 12th byte", allTold(x), "5/0/2");
        });
        sentence("(0 .. 4 each)", () -> {
            CrossTables x = streamOf(4, 4, 4, 1, 0, 0, 0, 2, 1, 2, 3, 4, 5, 6, 7, 8);
            due("4 4 4", x.kind(1) + "/" + counting(x, 1), "3/" + 0x01020304 + "/" + 0x05060708);
            CrossTables y = streamOf(0, 0, 0, 1);
            due("0 0 0", y.kind(1) + "/" + counting(y, 1), "4/0/0");
        });
        sentence("the highest byte first", () -> {
            CrossTables x = streamOf(2, 3, 2, 1, 0, 2, 1, 2, 3, 4, 5);
            due("2 3 2", x.kind(1) + "/" + counting(x, 1), "3/" + 0x010203 + "/" + 0x0405);
        });
        sentence("numbers: bytes above 127, and the highest", () -> {
            CrossTables x = streamOf(1, 4, 4, 1, 2, 255, 255, 255, 255, 255, 255, 255, 255);
            due("4 bytes of 255", counting(x, 1), "4294967295/4294967295");
            CrossTables y = streamOf(1, 4, 4, 1, 2, 128, 0, 0, 0, 127, 255, 255, 255);
            due("2 to the 31st, and 1 less", counting(y, 1), "2147483648/2147483647");
            CrossTables z = streamOf(1, 1, 2, 1, 2, 128, 0, 200);
            due("128, and 200", counting(z, 1), "128/200");
        });
        sentence("one without bytes is 1 (the first number), or 0", () -> {
            CrossTables x = new CrossTables();
            stream(x, 0, -1, 9, 4);
            x.widths(0, 0, 1, 1);
            x.run(0, 1, 1);
            x.head(9, 1, 4);
            x.read(0);
            due("the first is 1, USED", x.kind(1) + "/" + counting(x, 1), "2/9/4");
            CrossTables y = streamOf(1, 0, 1, 1, 2, 7);
            due("the second is 0", y.kind(1) + "/" + counting(y, 1), "3/0/7");
            CrossTables z = streamOf(1, 1, 0, 1, 2, 7);
            due("the third is 0", z.kind(1) + "/" + counting(z, 1), "3/7/0");
        });
        sentence("The first is 0 FREE, 1 USED, 2 WITHIN; others: the ROW tells nothing", () -> {
            for (int b = 0; b < 256; b++) {
                CrossTables x = new CrossTables();
                stream(x, 0, -1, b, 0, 9, 4);
                x.run(0, 1, 1);
                x.head(9, 1, 4);
                due("read, first " + b, x.read(0), b <= 2 ? 1 : 0);
                due("kind, first " + b, x.kind(1), b == 0 ? 1 : b == 1 ? 2 : b == 2 ? 3 : 0);
                due("revisions, first " + b, x.revision(1, -1), b <= 2 ? 1 : 0);
            }
        });
        sentence("others: above a byte, and above an int", () -> {
            due("256, 257, 258", kinds(streamOf(2, 0, 0, 3, 1, 0, 1, 1, 1, 2), 1, 3), "000");
            due("2 to the 16th, and 1 more", kinds(streamOf(3, 0, 0, 2, 1, 0, 0, 1, 0, 1), 1, 2), "00");
            due("2 to the 24th, and 1 more", kinds(streamOf(4, 0, 0, 2, 1, 0, 0, 0, 1, 0, 0, 1), 1, 2), "00");
            due("the highest, and 1 less", kinds(streamOf(4, 0, 0, 2, 255, 255, 255, 255, 255, 255, 255, 254), 1, 2), "00");
            due("2 to the 31st", kinds(streamOf(4, 0, 0, 1, 128, 0, 0, 0), 1, 1), "0");
            due("they are no ROWS PAST", allTold(streamOf(4, 0, 0, 1, 128, 0, 0, 0)), "");
        });
    }

    private static void streamRuns() {
        sentence("RUNS of a first object, and how many: none", () -> {
            CrossTables x = new CrossTables();
            stream(x, 0, -1);
            due("no bytes", x.read(0), 0);
            x.add(0, (byte) 1);
            due("bytes", x.read(0), 0);
            due("told", allTold(x), "");
        });
        sentence("Run by run each object has a ROW", () -> {
            CrossTables x = new CrossTables();
            stream(x, 0, -1, 11, 12, 13, 14, 15, 16, 17, 18);
            x.widths(0, 0, 1, 0);
            x.run(0, 50, 2);
            x.run(0, 98, 3);
            x.run(0, 0, 1);
            x.run(0, 51, 2);
            due("read", x.read(0), 6);
            due("the first run", x.place(50, 0) + "/" + x.place(51, 0), "11/12");
            due("the second, to above 99", x.place(98, 0) + "/" + x.place(99, 0), "13/14");
            due("the third", x.place(0, 0), 16);
            due("the fourth: 51 a second time", x.place(52, 0), 18);
            due("no other", x.kind(1) + "" + x.kind(49) + x.kind(53) + x.kind(97), "0000");
        });
        sentence("RUNS (6 at most): all are read", () -> {
            CrossTables x = new CrossTables();
            stream(x, 0, -1);
            x.widths(0, 0, 0, 0);
            for (int i = 0; i < 6; i++) {
                x.run(0, 10 * i, 1);
            }
            due("6 of one object", x.read(0), 6);
            due("the last", x.kind(50), 4);
            CrossTables y = new CrossTables();
            stream(y, 0, -1);
            y.widths(0, 0, 0, 0);
            for (int i = 0; i < 5; i++) {
                y.run(0, 999, 100);
            }
            y.run(0, 0, 100);
            due("6 of 100 objects, the last of 0 to 99", y.read(0), 100);
            due("the last object", y.kind(99), 4);
        });
        sentence("Where a byte is not there that is a ROW PAST", () -> {
            due("the first of all", allTold(streamOf(1, 2, 1, 1)), "5/0/0");
            due("the last of a row", allTold(streamOf(1, 2, 1, 1, 0, 0, 0)), "5/0/0");
            due("a row, and one byte", allTold(streamOf(1, 2, 1, 2, 0, 0, 0, 0, 0)), "5/0/1");
            due("a byte of the second number", allTold(streamOf(1, 2, 0, 1, 0, 0)), "5/0/0");
            due("a byte of the first number", allTold(streamOf(2, 0, 0, 1, 0)), "5/0/0");
            due("just enough", allTold(streamOf(1, 2, 1, 2, 0, 0, 0, 0, 0, 0, 0, 0)), "");
            due("too many", allTold(streamOf(1, 2, 1, 1, 0, 0, 0, 0, 0)), "");
            due("none is needed", allTold(streamOf(0, 0, 0, 1)), "7/1/0");
        });
        sentence("and nothing behind is read (of a STREAM)", () -> {
            CrossTables x = new CrossTables();
            stream(x, 0, 1, 0, 0, 0, 0, 0, 0, 0);
            x.run(0, 1, 3);
            x.run(0, 7, 1);
            table(x, 1, -1, "9 1 " + FREE_ROW);
            due("read, THE CHAIN goes on", x.read(0), 2);
            due("told once", allTold(x), "5/0/1");
            due("the row before alone", kinds(x, 1, 9), "100000001");
        });
        sentence("5 a ROW PAST (the SECTION; how many ROWS were read before)", () -> {
            CrossTables x = new CrossTables();
            table(x, 1, -1, "");
            stream(x, 0, -1, 0, 9, 0);
            x.widths(1, 1, 0, 0);
            x.run(1, 99, 2);
            x.run(1, 500, 1);
            x.run(1, 3, 1);
            x.read(0);
            due("those that tell nothing, too", allTold(x), "5/1/3");
        });
        sentence("a full stream: 300 bytes", () -> {
            CrossTables x = new CrossTables();
            stream(x, 0, -1, new int[300]);
            x.run(0, 1, 75);
            due("75 rows of 4", x.read(0), 75);
            due("75 rows of 4, told", allTold(x), "");
            x.run(0, 76, 1);
            due("76 rows of 4", x.read(0), 75);
            due("76 rows of 4, told", allTold(x), "5/0/75");
            x.widths(0, 4, 4, 4);
            due("rows of 12", x.read(0), 25);
            due("rows of 12, told", allTold(x), "5/0/25");
            x.widths(0, 4, 4, 3);
            due("rows of 11", x.read(0), 27);
            due("rows of 11, told", allTold(x), "5/0/27");
        });
        sentence("a full stream: 300 bytes of 300 ROWS", () -> {
            CrossTables x = new CrossTables();
            stream(x, 0, -1, new int[300]);
            x.widths(0, 1, 0, 0);
            x.run(0, 900, 100);
            x.run(0, 800, 100);
            x.run(0, 1, 100);
            due("rows of 1", x.read(0), 99);
            due("rows of 1, told", allTold(x), "");
            x.run(0, 0, 1);
            due("one more", x.read(0), 99);
            due("one more, told", allTold(x), "5/0/300");
        });
    }

    public static void main(String[] args) {
        tokens();
        tableRows();
        wrongInTables();
        oddRows();
        streamFields();
        streamRuns();
        end();
    }
}
