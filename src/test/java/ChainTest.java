/** The section "Terms" of the document, sentence by sentence: the chain, what counts, and what is told. */
public final class ChainTest extends Checks {
    private static final String FREE_ROW = row(0, 0, 'f');

    /** A table that tells of object 5, FREE. */
    private static int tableOfFive(CrossTables x, long place, long before) {
        return table(x, place, before, "5 1 " + FREE_ROW);
    }

    /** A stream that tells of object 5, FREE. */
    private static int streamOfFive(CrossTables x, long place, long before) {
        int section = stream(x, place, before, 0);
        x.widths(section, 1, 0, 0);
        x.run(section, 5, 1);
        return section;
    }

    private static void dueChain(String what, CrossTables x, long start, String sections, String told) {
        due(what + ": read", x.read(start), 1);
        due(what + ": the chain", revisions(x, 5), sections);
        due(what + ": told", allTold(x), told);
    }

    private static void chain() {
        sentence("THE CHAIN from a start: the SECTION with that PLACE", () -> {
            CrossTables x = new CrossTables();
            tableOfFive(x, LAST_PLACE, -1);
            streamOfFive(x, 0, -1);
            tableOfFive(x, 1, -1);
            dueChain("place 0", x, 0, "1", "");
            dueChain("place 1", x, 1, "2", "");
            dueChain("the last place", x, LAST_PLACE, "0", "");
        });
        sentence("if it has one BESIDE, behind it that one; then likewise what is BEFORE it", () -> {
            CrossTables x = new CrossTables();
            streamOfFive(x, 10, -1);
            tableOfFive(x, 11, 13);
            streamOfFive(x, 12, -1);
            tableOfFive(x, 13, -1);
            x.beside(1, 10);
            x.beside(3, 12);
            dueChain("two tables, each with a stream", x, 11, "1 0 3 2", "");
        });
        sentence("and so on: all 12, one before the other", () -> {
            CrossTables x = new CrossTables();
            for (int i = 0; i < 12; i++) {
                streamOfFive(x, i, i - 1);
            }
            dueChain("the longest", x, 11, "11 10 9 8 7 6 5 4 3 2 1 0", "");
            dueChain("from within", x, 2, "2 1 0", "");
            x.read(11);
            due("the 13th in the longest", x.revision(5, 12), -1);
            due("one of which none tells", x.revision(6, 0), -1);
            due("a key of which none has a value", x.trailer(9), -1);
        });
        sentence("and so on: all 12, six of them beside", () -> {
            CrossTables x = new CrossTables();
            for (int i = 0; i < 6; i++) {
                tableOfFive(x, i, i - 1);
            }
            for (int i = 0; i < 6; i++) {
                streamOfFive(x, 10 + i, -1);
                x.beside(i, 10 + i);
            }
            dueChain("the longest", x, 5, "5 11 4 10 3 9 2 8 1 7 0 6", "");
        });
        sentence("(what is BESIDE goes on nowhere)", () -> {
            CrossTables x = new CrossTables();
            tableOfFive(x, 0, -1);
            streamOfFive(x, 1, 2);
            streamOfFive(x, 2, -1);
            x.beside(0, 1);
            dueChain("before the stream is another one", x, 0, "0 1", "");
            CrossTables y = new CrossTables();
            tableOfFive(y, 0, -1);
            streamOfFive(y, 1, 99);
            y.beside(0, 1);
            dueChain("before the stream is nothing there", y, 0, "0 1", "");
            CrossTables z = new CrossTables();
            tableOfFive(z, 0, -1);
            streamOfFive(z, 1, 0);
            z.beside(0, 1);
            dueChain("before the stream is its table", z, 0, "0 1", "");
        });
    }

    private static void nowhere() {
        sentence("(-1: none)", () -> {
            CrossTables x = new CrossTables();
            tableOfFive(x, 0, -1);
            dueChain("nothing before, nothing beside", x, 0, "0", "");
            x.beside(0, 7);
            x.beside(0, -1);
            dueChain("nothing beside any more", x, 0, "0", "");
        });
        sentence("NOWHERE is a place, BEFORE, with no SECTION", () -> {
            for (long place : new long[] {0, 2, 4294967297L, LAST_PLACE}) {
                CrossTables x = new CrossTables();
                tableOfFive(x, 1, place);
                dueChain("before a table", x, 1, "0", "2/0/" + place);
                CrossTables y = new CrossTables();
                streamOfFive(y, 1, place);
                dueChain("before a stream", y, 1, "0", "2/0/" + place);
            }
        });
        sentence("NOWHERE is a place, BESIDE, with no SECTION", () -> {
            for (long place : new long[] {0, 2, 4294967297L, LAST_PLACE}) {
                CrossTables x = new CrossTables();
                tableOfFive(x, 1, -1);
                x.beside(0, place);
                dueChain("beside", x, 1, "0", "2/0/" + place);
            }
        });
        sentence("(BESIDE: no STREAM)", () -> {
            CrossTables x = new CrossTables();
            tableOfFive(x, 0, 1);
            tableOfFive(x, 1, -1);
            tableOfFive(x, 2, -1);
            x.beside(0, 2);
            dueChain("another table", x, 0, "0 1", "2/0/2");
            x.beside(0, 1);
            dueChain("the table before", x, 0, "0 1", "2/0/1");
            x.beside(0, 0);
            dueChain("itself", x, 0, "0 1", "2/0/0");
            x.beside(0, -1);
            x.beside(1, 0);
            dueChain("a table in the chain already", x, 0, "0 1", "2/1/0");
        });
    }

    private static void rings() {
        sentence("a RING one, BEFORE, whose SECTION is in THE CHAIN already", () -> {
            CrossTables x = new CrossTables();
            tableOfFive(x, 0, 0);
            dueChain("before itself", x, 0, "0", "1/0/0");
            CrossTables y = new CrossTables();
            streamOfFive(y, 0, 1);
            tableOfFive(y, 1, LAST_PLACE);
            streamOfFive(y, LAST_PLACE, 0);
            dueChain("the first of three", y, 0, "0 1 2", "1/2/0");
            dueChain("the same from another start", y, LAST_PLACE, "2 0 1", "1/1/" + LAST_PLACE);
            CrossTables z = new CrossTables();
            streamOfFive(z, 0, 1);
            streamOfFive(z, 1, 2);
            streamOfFive(z, 2, 1);
            dueChain("the second of three", z, 0, "0 1 2", "1/2/1");
        });
        sentence("a RING, BEFORE: one that is in THE CHAIN as BESIDE", () -> {
            CrossTables x = new CrossTables();
            tableOfFive(x, 0, 1);
            streamOfFive(x, 1, 2);
            streamOfFive(x, 2, -1);
            x.beside(0, 1);
            dueChain("beside and before the same", x, 0, "0 1", "1/0/1");
            CrossTables y = new CrossTables();
            tableOfFive(y, 0, 1);
            tableOfFive(y, 1, 2);
            streamOfFive(y, 2, -1);
            y.beside(0, 2);
            dueChain("beside the one behind", y, 0, "0 2 1", "1/1/2");
        });
        sentence("a RING one, BESIDE, whose SECTION is in THE CHAIN already", () -> {
            CrossTables x = new CrossTables();
            streamOfFive(x, 20, 10);
            tableOfFive(x, 10, -1);
            x.beside(1, 20);
            dueChain("the start itself", x, 20, "0 1", "1/1/20");
            CrossTables y = new CrossTables();
            tableOfFive(y, 0, 1);
            tableOfFive(y, 1, -1);
            streamOfFive(y, 2, -1);
            y.beside(0, 2);
            y.beside(1, 2);
            dueChain("beside two tables", y, 0, "0 2 1", "1/1/2");
        });
        sentence("both are TOLD, and not gone to", () -> {
            CrossTables x = new CrossTables();
            streamOfFive(x, 0, 1);
            tableOfFive(x, 1, 2);
            tableOfFive(x, 2, 3);
            tableOfFive(x, 3, 0);
            x.beside(1, 0);
            x.beside(2, 99);
            x.beside(3, 0);
            dueChain("what is before goes on behind what is beside", x, 0, "0 1 2 3", "1/1/0 2/2/99 1/3/0 1/3/0");
        });
        sentence("the longest chain may end with a RING", () -> {
            CrossTables x = new CrossTables();
            for (int i = 0; i < 12; i++) {
                streamOfFive(x, i, (i + 11) % 12);
            }
            dueChain("12 in a ring", x, 11, "11 10 9 8 7 6 5 4 3 2 1 0", "1/0/11");
        });
    }

    private static void counts() {
        sentence("ROWS of objects above 99 tell nothing", () -> {
            CrossTables x = afterTable("99 2 " + row(1, 1, 'f') + row(2, 2, 'n'));
            due("of 99 and 100", x.kind(99) + "/" + counting(x, 99), "1/1/1");
            due("nothing is told of 100", allTold(x), "");
            String rows = row(1, 1, 'n') + row(2, 2, 'n') + row(3, 3, 'n');
            CrossTables y = afterTable("4294967295 3 " + rows + "9999999999 3 " + rows);
            due("not those that an int would wrap to", kinds(y, 0, 2) + allTold(y), "000");
            CrossTables z = new CrossTables();
            stream(z, 0, -1);
            z.widths(0, 0, 0, 0);
            z.run(0, 999, 100);
            z.run(0, 100, 1);
            due("of a stream", z.read(0), 0);
            due("of a stream, told", allTold(z), "");
            z.run(0, 99, 2);
            due("of a stream, 99 and 100", z.read(0), 1);
            due("of a stream, 99 is told", allTold(z), "7/99/0");
        });
        sentence("What COUNTS for an object is the first ROW in THE CHAIN that tells of it", () -> {
            CrossTables x = new CrossTables();
            table(x, 0, 1, "1 1 " + row(10, 1, 'f'));
            table(x, 1, -1, "1 2 " + row(11, 2, 'n') + row(12, 3, 'f'));
            stream(x, 2, -1, 0, 0, 13, 4, 0, 0, 14, 5);
            x.run(2, 2, 2);
            x.beside(0, 2);
            x.read(0);
            due("the newest", x.kind(1) + "/" + counting(x, 1), "1/10/1");
            due("beside comes first", x.kind(2) + "/" + counting(x, 2), "1/13/4");
            due("in one alone", x.kind(3) + "/" + counting(x, 3), "1/14/5");
            x.read(1);
            due("the older one, read alone", x.kind(1) + "/" + counting(x, 1), "4/11/2");
        });
        sentence("What COUNTS: 0 and 0 may count, too", () -> {
            CrossTables x = new CrossTables();
            table(x, 0, 1, "1 1 " + row(0, 0, 'f'));
            table(x, 1, -1, "1 1 " + row(7, 7, 'f'));
            x.read(0);
            due("the first", counting(x, 1), "0/0");
        });
        sentence("the first that tells of it: one that tells nothing does not count", () -> {
            CrossTables x = new CrossTables();
            stream(x, 0, 1, 3, 0, 5, 5);
            x.run(0, 1, 1);
            table(x, 1, -1, "1 1 " + row(7, 8, 'f'));
            due("read", x.read(0), 1);
            due("the older one", x.kind(1) + "/" + counting(x, 1), "1/7/8");
            due("the one section", revisions(x, 1), "1");
        });
        sentence("(in a SECTION the first one)", () -> {
            CrossTables x = afterTable("1 2 " + row(1, 1, 'f') + row(2, 2, 'f') + "1 2 " + row(3, 3, 'n') + row(4, 4, 'n'));
            due("of a table", kinds(x, 1, 2) + "/" + counting(x, 1) + "/" + counting(x, 2), "11/1/1/2/2");
            CrossTables y = new CrossTables();
            stream(y, 0, -1, 3, 0, 0, 0, 2, 0, 5, 6, 0, 0, 7, 8);
            y.run(0, 1, 1);
            y.run(0, 1, 1);
            y.run(0, 1, 1);
            y.read(0);
            due("of a stream, behind one that tells nothing", y.kind(1) + "/" + counting(y, 1), "3/5/6");
        });
    }

    private static void wrongOnes() {
        sentence("A USED one is WRONG if no HEAD stands at its place", () -> {
            CrossTables x = new CrossTables();
            table(x, 0, -1, "0 3 " + row(17, 0, 'n') + row(4294967313L, 0, 'n') + row(9999999999L, 0, 'n'));
            x.head(18, 0, 0);
            x.head(16, 0, 0);
            x.read(0);
            due("none there, 0 too", allTold(x), "7/0/17 7/1/4294967313 7/2/9999999999");
            x.head(17, 0, 0);
            x.head(LAST_PLACE, 2, 0);
            x.read(0);
            due("with heads, but none above an int", kinds(x, 0, 2) + " " + allTold(x), "242 7/1/4294967313");
        });
        sentence("A USED one at place 0", () -> {
            CrossTables x = afterTable("1 1 " + row(0, 0, 'n'));
            due("without a head", kinds(x, 1, 1) + " " + allTold(x), "4 7/1/0");
            x.head(0, 1, 0);
            x.read(0);
            due("with a head", kinds(x, 1, 1) + " " + allTold(x), "2 ");
        });
        sentence("or one with another object", () -> {
            CrossTables x = new CrossTables();
            table(x, 0, -1, "1 3 " + row(17, 5, 'n') + row(17, 5, 'n') + row(17, 5, 'n'));
            x.head(17, 2, 5);
            x.read(0);
            due("kinds", kinds(x, 1, 3) + " " + allTold(x), "424 7/1/17 7/3/17");
        });
        sentence("or GENERATION", () -> {
            CrossTables x = new CrossTables();
            String rows = "1 4 17 4 n 18 6 n 19 5 n 20 99999 n ";
            table(x, 0, -1, rows + "5 3 21 4294967301 n 22 100000 n 23 9999999999 n");
            for (int i = 17; i < 20; i++) {
                x.head(i, i - 16, 5);
            }
            x.head(20, 4, 99999);
            x.head(21, 5, 5);
            x.head(22, 6, 99999);
            x.head(23, 7, 99999);
            x.read(0);
            due("kinds", kinds(x, 1, 7), "4422444");
        });
        sentence("A USED one is WRONG: others never are", () -> {
            CrossTables x = new CrossTables();
            stream(x, 0, -1, 2, 0, 9, 1, 0, 0, 9, 1);
            x.run(0, 1, 2);
            x.head(9, 3, 0);
            x.read(0);
            due("WITHIN and FREE", kinds(x, 1, 2) + " " + allTold(x), "31 ");
        });
    }

    private static void toldInOrder() {
        sentence("of a SECTION first what it has BESIDE that is not gone to, then what is wrong in its ROWS", () -> {
            CrossTables x = new CrossTables();
            table(x, 1, 98, "0 1 0 0 f x");
            x.beside(0, 97);
            x.read(1);
            due("beside, rows, before", allTold(x), "2/0/97 3/0/4 4/0/10 2/0/98");
        });
        sentence("of what it has BEFORE that is not gone to at last", () -> {
            CrossTables x = new CrossTables();
            table(x, 1, 98, "x");
            stream(x, 2, 99);
            x.run(1, 0, 1);
            x.beside(0, 2);
            x.read(1);
            due("behind the rows of the stream beside", allTold(x), "4/0/0 5/1/0 2/0/98");
            x.read(2);
            due("behind the rows of a stream", allTold(x), "5/1/0 2/1/99");
        });
        sentence("TOLD, as THE CHAIN is gone along", () -> {
            CrossTables x = new CrossTables();
            table(x, 1, -1, "y");
            table(x, 2, 1, "0 1 0 0 n");
            stream(x, 3, 2);
            x.run(2, 0, 1);
            x.beside(0, 5);
            x.beside(1, 3);
            x.read(3);
            due("three sections, then an object", allTold(x), "5/2/0 1/1/3 3/1/4 2/0/5 4/0/0 7/0/0");
        });
        sentence("Then by objects: 6 a FREE one of which there is a HEAD, 7 a WRONG one", () -> {
            CrossTables x = new CrossTables();
            table(x, 0, -1, "97 3 " + row(0, 0, 'f') + row(31, 0, 'n') + row(0, 0, 'f')
                    + "1 3 " + row(32, 0, 'n') + row(0, 0, 'f') + row(33, 0, 'n'));
            x.head(41, 99, 0);
            x.head(42, 97, 0);
            x.head(43, 2, 0);
            x.read(0);
            due("in the order of the objects", allTold(x), "7/1/32 6/2/43 7/3/33 6/97/42 7/98/31 6/99/41");
        });
    }

    private static void toldOfFree() {
        sentence("6 a FREE one (but 0)", () -> {
            CrossTables x = new CrossTables();
            table(x, 0, -1, "0 2 " + FREE_ROW + FREE_ROW);
            x.head(3, 0, 0);
            x.read(0);
            due("0 alone", allTold(x), "");
            x.head(4, 1, 0);
            x.read(0);
            due("0 and 1", allTold(x), "6/1/4");
            due("it stays FREE", x.kind(1), 1);
        });
        sentence("of which there is a HEAD (the object; the least such place)", () -> {
            CrossTables x = new CrossTables();
            table(x, 0, -1, "1 1 " + FREE_ROW);
            x.head(LAST_PLACE, 1, 99999);
            x.read(0);
            due("the last place", allTold(x), "6/1/9999999999");
            x.head(30, 1, 5);
            x.head(20, 1, 6);
            x.head(25, 1, 0);
            x.head(19, 2, 0);
            x.read(0);
            due("the least, of any generation", allTold(x), "6/1/20");
            x.head(20, 2, 6);
            x.read(0);
            due("the least that is left", allTold(x), "6/1/25");
            x.head(0, 1, 0);
            x.read(0);
            due("place 0", allTold(x), "6/1/0");
        });
        sentence("6 a FREE one: of others a HEAD is not told", () -> {
            CrossTables x = new CrossTables();
            stream(x, 0, -1, 1, 0, 9, 0, 2, 0, 9, 0);
            x.run(0, 1, 2);
            x.head(9, 1, 0);
            x.head(10, 1, 0);
            x.head(11, 2, 0);
            x.head(12, 3, 0);
            x.read(0);
            due("USED, WITHIN, and one of which nothing counts", allTold(x), "");
        });
    }

    /** So many things to tell, 201 at most, after 511 calls or fewer: one call is left to ask with. */
    private static CrossTables withMuchToTell(int many) {
        CrossTables x = new CrossTables();
        x.section(1, 0, 99);
        x.run(0, 0, 100);
        x.widths(0, 0, 0, 0);
        for (int i = 1; i < 12; i++) {
            x.section(0, i, i - 1);
            x.beside(i, 99);
        }
        StringBuilder bytes = new StringBuilder("0 99");
        for (int i = 0; i < 49; i++) {
            bytes.append(" 0 0 n");
        }
        fill(x, 11, bytes.toString());
        fill(x, 10, bytes.substring(0, 4 + 29 * 6));
        for (int i = 1; i < 10 - (201 - many); i++) {
            fill(x, i, "x");
        }
        x.read(11);
        return x;
    }

    private static void mostTold() {
        sentence("200 at most are kept: 199", () -> {
            due("how many", withMuchToTell(199).told(-1, 0), 199);
            due("the last", withMuchToTell(199).told(198, 1), 99);
            CrossTables x = withMuchToTell(199);
            dueThrow("the 200th", INDEX, () -> x.told(199, 0));
        });
        sentence("200 at most are kept: 200", () -> {
            due("how many", withMuchToTell(200).told(-1, 0), 200);
            due("the last", withMuchToTell(200).told(199, 1), 99);
            due("the first", withMuchToTell(200).told(0, 2), 99);
        });
        sentence("200 at most are kept: of 201", () -> {
            due("how many", withMuchToTell(201).told(-1, 0), 200);
            due("the kind of the first", withMuchToTell(201).told(0, 0), 2);
            due("the section of the first", withMuchToTell(201).told(0, 1), 11);
            due("the kind of the last", withMuchToTell(201).told(199, 0), 7);
            due("the object of the last", withMuchToTell(201).told(199, 1), 98);
            due("one that is not kept is what it is", withMuchToTell(201).kind(99), 4);
            CrossTables x = withMuchToTell(201);
            dueThrow("the 201st", INDEX, () -> x.told(200, 0));
        });
    }

    public static void main(String[] args) {
        chain();
        nowhere();
        rings();
        counts();
        wrongOnes();
        toldInOrder();
        toldOfFree();
        mostTold();
        end();
    }
}
