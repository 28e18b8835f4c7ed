import java.util.NoSuchElementException;

/** Each promise of the document by hand: ordinary inputs, the edges that it names, wrong inputs. */
public final class PromisesTest {
    private static final long LAST_PLACE = 9999999999L;
    private static final Class<?> ILLEGAL = IllegalArgumentException.class;
    private static final Class<?> UNSUPPORTED = UnsupportedOperationException.class;
    private static final Class<?> MISSING = NoSuchElementException.class;
    private static final Class<?> INDEX = IndexOutOfBoundsException.class;
    private static final Class<?> ARRAY_INDEX = ArrayIndexOutOfBoundsException.class;

    private static int wrong = 0;

    private interface Call {
        long answer();
    }

    private static void due(String what, long got, long want) {
        if (got != want) {
            wrong++;
            System.out.println(what + " answered " + got + ", due is " + want);
        }
    }

    private static void due(String what, String got, String want) {
        if (!got.equals(want)) {
            wrong++;
            System.out.println(what + " answered '" + got + "', due is '" + want + "'");
        }
    }

    private static void dueThrow(String what, Class<?> want, Call call) {
        String got;
        try {
            got = String.valueOf(call.answer());
        } catch (RuntimeException e) {
            got = e.getClass().getName();
        }
        due(what, got, want.getName());
    }

    private static void fill(CrossTables x, int section, String bytes) {
        for (int i = 0; i < bytes.length(); i++) {
            x.add(section, (byte) bytes.charAt(i));
        }
    }

    private static int table(CrossTables x, long place, long before, String bytes) {
        int section = x.section(0, place, before);
        fill(x, section, bytes);
        return section;
    }

    private static int stream(CrossTables x, long place, long before, int... bytes) {
        int section = x.section(1, place, before);
        for (int b : bytes) {
            x.add(section, (byte) b);
        }
        return section;
    }

    /** All that was told, as kind/section or object/number. */
    private static String allTold(CrossTables x) {
        StringBuilder all = new StringBuilder();
        for (int i = 0; i < x.told(-1, 0); i++) {
            all.append(i == 0 ? "" : " ").append(x.told(i, 0)).append('/').append(x.told(i, 1));
            all.append('/').append(x.told(i, 2));
        }
        return all.toString();
    }

    private static String revisions(CrossTables x, int object) {
        StringBuilder all = new StringBuilder();
        for (int i = 0; i < x.revision(object, -1); i++) {
            all.append(i == 0 ? "" : " ").append(x.revision(object, i));
        }
        due("revision behind the last", x.revision(object, x.revision(object, -1)), -1);
        return all.toString();
    }

    private static String allFree(CrossTables x) {
        StringBuilder all = new StringBuilder();
        for (int i = 0; i < x.free(-1); i++) {
            all.append(i == 0 ? "" : " ").append(x.free(i));
        }
        due("free behind the last", x.free(x.free(-1)), -1);
        return all.toString();
    }

    private static String row(long first, long second, char sign) {
        return String.format("%010d %05d %c \n", first, second, sign);
    }

    private static void newObject() {
        CrossTables x = new CrossTables();
        due("new: told", x.told(-1, 0), 0);
        due("new: free", x.free(-1), 0);
        for (int object = 0; object < 100; object++) {
            due("new: kind", x.kind(object), 0);
            due("new: place", x.place(object, 0), -1);
            due("new: generation", x.place(object, 1), -1);
            due("new: revisions", x.revision(object, -1), 0);
        }
        for (int key = 0; key < 10; key++) {
            due("new: trailer", x.trailer(key), -1);
        }
        dueThrow("new: no section", MISSING, () -> x.octet(0, 0));
        due("new: the first head", x.head(0, 0, 0), 1);
        due("new: the first section", x.section(1, 0, -1), 0);
    }

    private static void sections() {
        CrossTables x = new CrossTables();
        dueThrow("section: kind -1", ILLEGAL, () -> x.section(-1, 0, -1));
        dueThrow("section: kind 2", ILLEGAL, () -> x.section(2, 0, -1));
        dueThrow("section: place -1", ILLEGAL, () -> x.section(0, -1, -1));
        dueThrow("section: place above", ILLEGAL, () -> x.section(0, LAST_PLACE + 1, -1));
        dueThrow("section: before -2", ILLEGAL, () -> x.section(0, 0, -2));
        dueThrow("section: before above", ILLEGAL, () -> x.section(0, 0, LAST_PLACE + 1));
        due("section: the last place", x.section(0, LAST_PLACE, LAST_PLACE), 0);
        dueThrow("section: a place twice", ILLEGAL, () -> x.section(1, LAST_PLACE, -1));
        for (int i = 1; i < 12; i++) {
            due("section", x.section(i % 2, i - 1, i - 2), i);
        }
        dueThrow("section: the 13th", UNSUPPORTED, () -> x.section(0, 77, -1));
        dueThrow("section: the 13th, wrong", ILLEGAL, () -> x.section(0, 0, -1));
        dueThrow("section: no bytes", ARRAY_INDEX, () -> x.octet(11, 0));
    }

    private static void bytes() {
        CrossTables x = new CrossTables();
        dueThrow("add: no section", MISSING, () -> x.add(0, (byte) 0));
        x.section(0, 0, -1);
        x.section(1, 1, -1);
        dueThrow("add: section -1", MISSING, () -> x.add(-1, (byte) 0));
        dueThrow("add: section 2", MISSING, () -> x.add(2, (byte) 0));
        for (int i = 0; i < 300; i++) {
            due("add", x.add(1, (byte) i), i + 1);
        }
        dueThrow("add: the 301st", UNSUPPORTED, () -> x.add(1, (byte) 0));
        dueThrow("add: the 301st, no section", MISSING, () -> x.add(2, (byte) 0));
        due("add: another section", x.add(0, (byte) -128), 1);
        due("octet: lowest byte", x.octet(0, 0), -128);
        dueThrow("octet: behind", ARRAY_INDEX, () -> x.octet(0, 1));
        dueThrow("octet: -1", ARRAY_INDEX, () -> x.octet(0, -1));
        dueThrow("octet: 300", ARRAY_INDEX, () -> x.octet(1, 300));
        dueThrow("octet: no section", MISSING, () -> x.octet(2, -1));
        dueThrow("octet: section -1", MISSING, () -> x.octet(-1, 0));
        for (int i = 0; i < 300; i++) {
            due("octet", x.octet(1, i), (byte) i);
        }
    }

    private static void besideTables() {
        CrossTables x = new CrossTables();
        x.section(0, 0, -1);
        x.section(1, 1, -1);
        dueThrow("beside: no section", MISSING, () -> x.beside(2, -2));
        dueThrow("beside: a stream", ILLEGAL, () -> x.beside(1, 0));
        dueThrow("beside: -2", ILLEGAL, () -> x.beside(0, -2));
        dueThrow("beside: above", ILLEGAL, () -> x.beside(0, LAST_PLACE + 1));
        due("beside: at first", x.beside(0, LAST_PLACE), -1);
        due("beside: the one before", x.beside(0, 0), LAST_PLACE);
        due("beside: 0", x.beside(0, -1), 0);
        due("beside: none again", x.beside(0, 1), -1);
    }

    private static void widthsAndRuns() {
        CrossTables x = new CrossTables();
        x.section(0, 0, -1);
        x.section(1, 1, -1);
        dueThrow("widths: no section", MISSING, () -> x.widths(2, 9, 9, 9));
        dueThrow("widths: a table", ILLEGAL, () -> x.widths(0, 1, 1, 1));
        int[][] bad = {{-1, 0, 0}, {0, -1, 0}, {0, 0, -1}, {5, 0, 0}, {0, 5, 0}, {0, 0, 5}};
        for (int[] w : bad) {
            dueThrow("widths", ILLEGAL, () -> x.widths(1, w[0], w[1], w[2]));
        }
        due("widths: 0", x.widths(1, 0, 0, 0), 0);
        due("widths: 12", x.widths(1, 4, 4, 4), 12);
        due("widths: 1 2 4", x.widths(1, 1, 2, 4), 7);
        dueThrow("run: no section", MISSING, () -> x.run(2, -1, 0));
        dueThrow("run: a table", ILLEGAL, () -> x.run(0, 0, 1));
        dueThrow("run: first -1", ILLEGAL, () -> x.run(1, -1, 1));
        dueThrow("run: first 1000", ILLEGAL, () -> x.run(1, 1000, 1));
        dueThrow("run: many 0", ILLEGAL, () -> x.run(1, 0, 0));
        dueThrow("run: many 101", ILLEGAL, () -> x.run(1, 0, 101));
        for (int i = 1; i <= 6; i++) {
            due("run", x.run(1, 999, 100), i);
        }
        dueThrow("run: the 7th", UNSUPPORTED, () -> x.run(1, 0, 1));
        dueThrow("run: the 7th, wrong", ILLEGAL, () -> x.run(1, 0, 0));
    }

    private static void keys() {
        CrossTables x = new CrossTables();
        dueThrow("key: no section", MISSING, () -> x.key(0, 10, 0));
        dueThrow("value: no section", MISSING, () -> x.value(0, 10));
        x.section(0, 0, 1);
        x.section(1, 1, -1);
        for (int key = 0; key < 10; key++) {
            due("value: none", x.value(0, key), 0);
            due("key: new", x.key(0, key, key - 5), 0);
        }
        due("key: again, 0", x.key(0, 9, 0), 1);
        due("key: again, lowest", x.key(0, 9, Integer.MIN_VALUE), 1);
        due("value", x.value(0, 9), Integer.MIN_VALUE);
        due("value: of another key", x.value(0, 8), 3);
        due("value: of another section", x.value(1, 9), 0);
        dueThrow("key: -1", ILLEGAL, () -> x.key(0, -1, 0));
        dueThrow("key: 10", ILLEGAL, () -> x.key(0, 10, 0));
        dueThrow("value: -1", ILLEGAL, () -> x.value(0, -1));
        dueThrow("value: 10", ILLEGAL, () -> x.value(0, 10));
    }

    private static void headsAtPlaces() {
        CrossTables x = new CrossTables();
        dueThrow("head: place -1", ILLEGAL, () -> x.head(-1, 0, 0));
        dueThrow("head: place above", ILLEGAL, () -> x.head(LAST_PLACE + 1, 0, 0));
        dueThrow("head: object -1", ILLEGAL, () -> x.head(0, -1, 0));
        dueThrow("head: object 100", ILLEGAL, () -> x.head(0, 100, 0));
        dueThrow("head: generation -1", ILLEGAL, () -> x.head(0, 0, -1));
        dueThrow("head: generation above", ILLEGAL, () -> x.head(0, 0, 100000));
        due("head: the last of all", x.head(LAST_PLACE, 99, 99999), 1);
        due("head: in place of another", x.head(LAST_PLACE, 1, 0), 1);
        for (int i = 1; i < 60; i++) {
            due("head", x.head(i, 2, i), i + 1);
        }
        dueThrow("head: the 61st", UNSUPPORTED, () -> x.head(60, 0, 0));
        dueThrow("head: the 61st, wrong", ILLEGAL, () -> x.head(60, 100, 0));
        due("head: in place of another, 60", x.head(59, 99, 99999), 60);
        table(x, 0, -1, "99 1 59 99999 n ");
        x.read(0);
        due("head: the newer one stands", x.kind(99), 2);
        table(x, 1, -1, "98 2 " + row(0, 0, 'f') + row(0, 0, 'f'));
        x.read(1);
        due("head: the last of 60", allTold(x), "6/99/59");
    }

    private static void reading() {
        CrossTables x = new CrossTables();
        table(x, 5, -1, "0 3 " + row(2, 65535, 'f') + row(7, 1, 'n') + row(0, 1, 'f'));
        due("read: nowhere", x.read(0), -1);
        due("read: -1", x.read(-1), -1);
        due("read: lowest", x.read(Long.MIN_VALUE), -1);
        x.key(0, 3, 1);
        due("trailer: nothing read", x.trailer(3), -1);
        x.head(8, 2, 0);
        due("read", x.read(5), 3);
        due("kinds", "" + x.kind(0) + x.kind(1) + x.kind(2) + x.kind(3), "1410");
        due("read: told", allTold(x), "7/1/7 6/2/8");
        due("trailer", x.trailer(3), 0);
        x.head(7, 1, 1);
        due("kind is by the latest reading", x.kind(1), 4);
        due("read again", x.read(5), 3);
        due("kind with the head", x.kind(1), 2);
        due("told with the head", allTold(x), "6/2/8");
        due("read: nowhere again", x.read(6), -1);
        due("kind: nothing counts", x.kind(1), 0);
        due("place: nothing counts", x.place(1, 0), -1);
        due("revision: nothing counts", revisions(x, 1), "");
        due("told: nothing", allTold(x), "");
        due("free: nothing", allFree(x), "");
        due("trailer: none in no chain", x.trailer(3), -1);
        dueThrow("kind: -1", INDEX, () -> x.kind(-1));
        dueThrow("kind: 100", INDEX, () -> x.kind(100));
        dueThrow("place: -1", INDEX, () -> x.place(-1, 0));
        dueThrow("place: 100", INDEX, () -> x.place(100, 0));
        dueThrow("place: what -1", INDEX, () -> x.place(0, -1));
        dueThrow("place: what 2", INDEX, () -> x.place(0, 2));
        dueThrow("revision: -1", INDEX, () -> x.revision(-1, -1));
        dueThrow("revision: 100", INDEX, () -> x.revision(100, -1));
        dueThrow("revision: i -2", INDEX, () -> x.revision(0, -2));
        due("revision: far behind", x.revision(0, Integer.MAX_VALUE), -1);
        dueThrow("free: -2", INDEX, () -> x.free(-2));
        due("free: far behind", x.free(Integer.MAX_VALUE), -1);
        dueThrow("trailer: -1", ILLEGAL, () -> x.trailer(-1));
        dueThrow("trailer: 10", ILLEGAL, () -> x.trailer(10));
    }

    private static void toldCalls() {
        CrossTables x = new CrossTables();
        table(x, 0, 9, "");
        x.read(0);
        due("told: how many, whatever what is", x.told(-1, Integer.MIN_VALUE), 1);
        due("told: how many, whatever what is", x.told(-1, 3), 1);
        due("told", allTold(x), "2/0/9");
        dueThrow("told: -2", INDEX, () -> x.told(-2, 0));
        dueThrow("told: 1", INDEX, () -> x.told(1, 0));
        dueThrow("told: what -1", INDEX, () -> x.told(0, -1));
        dueThrow("told: what 3", INDEX, () -> x.told(0, 3));
    }

    private static String toldOfTable(String bytes) {
        CrossTables x = new CrossTables();
        table(x, 0, -1, bytes);
        x.read(0);
        return allTold(x);
    }

    private static void tables() {
        String row = row(0, 0, 'f');
        due("table: no bytes", toldOfTable(""), "");
        due("table: blanks alone", toldOfTable("\0\t\n\f\r "), "");
        due("table: nothing due", toldOfTable("0 0"), "");
        due("table: nothing due, twice", toldOfTable("0 0 7 0 "), "");
        due("table: every blank", toldOfTable("\0000\t1\n0000000000\f00000\rf\0\0" + "0 0"), "");
        due("table: byte 11 is no blank", toldOfTable("0\0130 "), "4/0/0");
        due("table: byte 128 is no blank", toldOfTable("0 0 \200"), "4/0/4");
        due("table: no number first", toldOfTable(" trailer"), "4/0/1");
        due("table: no number second", toldOfTable("0 x"), "4/0/2");
        due("table: end for the second", toldOfTable("0 \n"), "4/0/3");
        due("table: end for a row", toldOfTable("0 1 \n"), "4/0/5");
        due("table: end for the second row", toldOfTable("0 2 " + row), "4/0/24");
        due("table: end within a row", toldOfTable("0 1 0"), "4/0/5");
        due("table: no sign at the end", toldOfTable("0 1 0 0"), "4/0/4");
        due("table: beginning while due", toldOfTable("0 2 " + row + "5 1 " + row), "4/0/24");
        due("table: row when none is due", toldOfTable("0 1 " + row + row + "x"), "4/0/24");
        due("table: row first of all", toldOfTable(row), "4/0/0");
        due("table: 100 due", toldOfTable("100 100 " + row), "4/0/28");
        due("table: 101 due", toldOfTable("100 101 " + row), "4/0/0");
        due("table: 10 digits due", toldOfTable("0 4294967296 "), "4/0/0");
        due("table: 10 digits", toldOfTable("9999999999 0"), "");
        due("table: 11 digits", toldOfTable("00000000000 0"), "4/0/0");
        due("table: 11 digits second", toldOfTable("0 00000000000"), "4/0/2");
        due("table: a sign too much", toldOfTable("0 1 0 0 nn"), "4/0/4");
        due("table: a great sign", toldOfTable("0 1 0 0 F"), "4/0/4");
        due("table: below the digits", toldOfTable("/ 0"), "4/0/0");
        due("table: above the digits", toldOfTable(": 0"), "4/0/0");
        due("table: wrong when none is due, no number", toldOfTable("0 0 n"), "4/0/0");
        due("table: odd by the end", toldOfTable("0 1 0 0 f"), "3/0/4");
        due("table: odd by one blank less", toldOfTable("0 1 0000000000 00000 f\n"), "3/0/4");
        due("table: odd by one blank more", toldOfTable("0 1 " + row + " "), "3/0/4");
        due("table: odd by the next token", toldOfTable("0 2 0000000000 00000 f\n" + row), "3/0/4");
        due("table: odd above 99", toldOfTable("100 2 " + row + "0 0 f"), "3/0/26");
        due("table: odd, then wrong", toldOfTable("0 1 0 0 f x"), "3/0/4 4/0/10");
    }

    private static void tableRows() {
        CrossTables x = new CrossTables();
        table(x, 0, -1, "98 3 " + row(0, 5, 'f') + row(9999999998L, 9999, 'f') + row(1, 1, 'f')
                + "3 2 " + row(4, 0, 'f') + row(4294967297L, 0, 'f') + "3 2 " + row(6, 0, 'f') + "y");
        due("table: rows that tell", x.read(0), 4);
        due("table: a high place", x.place(99, 0), 9999999998L);
        due("table: its generation", x.place(99, 1), 9999);
        due("table: the first row in a section", x.place(3, 0), 4);
        due("table: a section tells once", revisions(x, 3), "0");
        due("table: above an int", x.place(4, 0), 4294967297L);
        due("table: wrong behind", allTold(x), "4/0/" + (5 + 60 + 4 + 40 + 4 + 20));

        CrossTables y = new CrossTables();
        table(y, 0, -1, "9999999999 2 " + row(1, 1, 'n') + row(1, 1, 'n') + "4294967295 3 " + row(1, 1, 'n')
                + row(1, 1, 'n') + row(1, 1, 'n'));
        due("table: high objects", y.read(0), 0);

        CrossTables z = new CrossTables();
        table(z, 0, -1, "1 3 17 9999999999 n 18 0 n 19 70000 n");
        z.head(17, 1, 99999);
        z.head(18, 3, 0);
        z.head(19, 3, 70000);
        z.read(0);
        due("used: another generation", z.kind(1), 4);
        due("used: a high generation", z.place(1, 1), 9999999999L);
        due("used: another object", z.kind(2), 4);
        due("used", z.kind(3), 2);
        due("used: told", allTold(z), "3/0/4 3/0/20 3/0/27 7/1/17 7/2/18");
    }

    private static void streams() {
        CrossTables x = new CrossTables();
        stream(x, 0, -1, 1, 1, 2, 3, 0, 0, 5, 7, 2, 255, 255, 255, 3, 0, 0, 0, 255, 0, 0, 0, 1, 0);
        due("stream: no run", x.read(0), 0);
        due("stream: no run, told", allTold(x), "");
        x.run(0, 97, 5);
        due("stream", x.read(0), 3);
        due("stream: kinds", "" + x.kind(96) + x.kind(97) + x.kind(98) + x.kind(99), "0413");
        due("stream: the highest byte first", x.place(97, 0), 258);
        due("stream: its generation", x.place(97, 1), 3);
        due("stream: next free", x.place(98, 0), 5);
        due("stream: without a sign", x.place(99, 0), 65535);
        due("stream: number within", x.place(99, 1), 255);
        due("stream: told", allTold(x), "7/97/258");
        x.run(0, 3, 1);
        x.run(0, 5, 1);
        due("stream: past", x.read(0), 3);
        due("stream: told past, once", allTold(x), "5/0/5 7/97/258");
        due("stream: widths", x.widths(0, 0, 4, 0), 4);
        due("stream: only a second number", x.read(0), 3);
        due("stream: the first is 1", x.kind(99), 4);
        due("stream: 4 bytes", x.place(99, 0), 0x02ffffffL);
        due("stream: the third is 0", x.place(99, 1), 0);

        CrossTables y = new CrossTables();
        stream(y, 0, -1, 255, 255, 255, 255, 1, 0, 0, 0, 0);
        y.run(0, 7, 2);
        y.widths(0, 0, 0, 4);
        y.read(0);
        due("stream: without a sign, 4 bytes", y.place(7, 1), 4294967295L);
        due("stream: without bytes, the place", y.place(7, 0), 0);
        y.widths(0, 4, 0, 0);
        y.read(0);
        due("stream: other first numbers", "" + y.kind(7) + y.kind(8), "00");
        due("stream: they tell nothing", y.revision(7, -1), 0);
        y.widths(0, 0, 0, 0);
        y.run(0, 0, 100);
        due("stream: rows without bytes", y.read(0), 100);
        due("stream: all of place 0", y.place(99, 0), 0);
        due("stream: all wrong", y.told(-1, 0), 100);
    }

    private static void chains() {
        CrossTables x = new CrossTables();
        String own = "1 1 " + row(1, 1, 'f');
        table(x, 10, 30, own);
        stream(x, 20, 10, 0, 0, 2, 2);
        table(x, 30, 20, own);
        x.run(1, 1, 1);
        x.beside(0, 20);
        x.beside(2, 40);
        due("chain", x.read(10), 1);
        due("chain: beside goes on nowhere, before goes on", revisions(x, 1), "0 1 2");
        due("chain: told", allTold(x), "2/2/40 1/2/20");
        due("chain: from a stream", x.read(20), 1);
        due("chain: of three", revisions(x, 1), "1 0 2");
        due("chain: the first counts", x.place(1, 0), 2);
        due("chain: rings", allTold(x), "1/0/20 2/2/40 1/2/20");
        x.beside(2, 30);
        due("chain: beside itself", x.read(30), 1);
        due("chain: a table beside is nowhere, in the chain or not", allTold(x), "2/2/30 1/0/20 1/0/30");
        due("chain: order", revisions(x, 1), "2 1 0");

        CrossTables y = new CrossTables();
        table(y, 1, 2, "x");
        stream(y, 2, 99, 1);
        y.run(1, 0, 1);
        y.beside(0, 2);
        y.read(1);
        due("chain: beside and before the same", allTold(y), "4/0/0 5/1/0 1/0/2");

        CrossTables z = new CrossTables();
        table(z, 1, 98, "x");
        stream(z, 2, 99, 1);
        z.run(1, 0, 1);
        z.beside(0, 97);
        z.read(1);
        due("chain: beside, rows, before", allTold(z), "2/0/97 4/0/0 2/0/98");
        z.beside(0, 2);
        z.read(1);
        due("chain: before is told at last", allTold(z), "4/0/0 5/1/0 2/0/98");
        z.read(2);
        due("chain: before a stream", allTold(z), "5/1/0 2/1/99");

        CrossTables self = new CrossTables();
        table(self, 1, 1, "");
        due("chain: before itself", self.read(1), 0);
        due("chain: before itself, told", allTold(self), "1/0/1");
    }

    private static void longChain() {
        CrossTables x = new CrossTables();
        for (int i = 0; i < 12; i++) {
            stream(x, i, i - 1);
            x.widths(i, 0, 0, 0);
            x.run(i, 5, 1);
            x.key(i, i % 10, 0);
        }
        due("chain of 12", x.read(11), 1);
        due("chain of 12: revisions", revisions(x, 5), "11 10 9 8 7 6 5 4 3 2 1 0");
        due("trailer: the first in the chain", x.trailer(1), 11);
        due("trailer: value 0 is one", x.trailer(2), 2);
        x.read(10);
        due("trailer: of the chain alone", x.trailer(1), 1);
        due("trailer: still", x.trailer(0), 10);
        x.key(9, 3, 7);
        due("trailer: by the values of now", x.trailer(3), 9);
    }

    private static void freeOnes() {
        due("free: to 0", freeOf("0 4 2 0 f 0 0 f 3 0 f 1 0 f"), "2 3 1");
        due("free: in a ring", freeOf("0 4 2 0 f 2 0 f 3 0 f 1 0 f"), "2 3 1");
        due("free: a used one ends them", freeOf("0 4 2 0 f 0 0 n 3 0 f 1 0 f"), "2 3");
        due("free: one of which nothing counts", freeOf("0 3 2 0 f 1 0 f 9 0 f"), "2");
        due("free: 0 is used", freeOf("0 3 2 0 n 1 0 f 1 0 f"), "");
        due("free: 0 of which nothing counts", freeOf("1 2 2 0 f 1 0 f"), "");
        due("free: 0 by itself", freeOf("0 2 0 0 f 1 0 f"), "");
        due("free: itself", freeOf("0 2 1 0 f 1 0 f"), "1");
        due("free: above the objects", freeOf("0 2 1 0 f 100 0 f"), "1");
        due("free: above an int", freeOf("0 2 1 0 f 4294967297 0 f"), "1");
        due("free: the last object", freeOf("0 1 99 0 f 99 1 1 0 f 1 1 4294967395 0 f"), "99 1");
    }

    private static String freeOf(String bytes) {
        CrossTables x = new CrossTables();
        table(x, 0, -1, bytes);
        x.read(0);
        return allFree(x);
    }

    private static void freeWithHeads() {
        CrossTables x = new CrossTables();
        table(x, 0, -1, "0 2 " + row(0, 0, 'f') + row(0, 0, 'f'));
        x.head(30, 1, 5);
        x.head(20, 1, 6);
        x.head(25, 1, 0);
        x.head(3, 0, 0);
        x.read(0);
        due("free with a head: the least place, not of 0", allTold(x), "6/1/20");
        x.head(20, 2, 6);
        x.read(0);
        due("free with a head: after another head", allTold(x), "6/1/25");
    }

    /** 201 things to tell after 511 calls, so that there is one call left to ask with. */
    private static CrossTables withTooMuchToTell() {
        CrossTables x = new CrossTables();
        x.section(1, 0, 99);
        x.run(0, 0, 100);
        x.widths(0, 0, 0, 0);
        for (int i = 1; i < 12; i++) {
            x.section(0, i, i - 1);
            x.beside(i, 99);
        }
        StringBuilder bytes = new StringBuilder("0 99");
        for (int i = 0; i < 49; i++) {
            bytes.append(" 0 0 n");
        }
        fill(x, 11, bytes.toString());
        fill(x, 10, bytes.substring(0, 4 + 29 * 6));
        for (int i = 1; i < 10; i++) {
            fill(x, i, "x");
        }
        x.read(11);
        return x;
    }

    private static void mostTold() {
        due("told: 200 at most", withTooMuchToTell().told(-1, 0), 200);
        due("told: the first are kept", withTooMuchToTell().told(0, 0), 2);
        due("told: the last that is kept", withTooMuchToTell().told(199, 1), 98);
        due("kind: of one that is not kept", withTooMuchToTell().kind(99), 4);
        CrossTables x = withTooMuchToTell();
        dueThrow("told: the 201st", INDEX, () -> x.told(200, 0));
    }

    private static void throwingChangesNothing() {
        CrossTables x = new CrossTables();
        stream(x, 0, -1, 1, 0, 9, 4);
        x.run(0, 1, 1);
        x.head(9, 1, 4);
        x.read(0);
        dueThrow("widths", ILLEGAL, () -> x.widths(0, 2, 2, 5));
        dueThrow("run", ILLEGAL, () -> x.run(0, 2, 101));
        dueThrow("head", ILLEGAL, () -> x.head(9, 1, 100000));
        dueThrow("key", ILLEGAL, () -> x.key(0, 10, 4));
        dueThrow("beside", ILLEGAL, () -> x.beside(0, 4));
        due("read: as before", x.read(0), 1);
        due("kind: as before", x.kind(1), 2);
        due("told: as before", allTold(x), "");
    }

    public static void main(String[] args) {
        newObject();
        sections();
        bytes();
        besideTables();
        widthsAndRuns();
        keys();
        headsAtPlaces();
        reading();
        toldCalls();
        tables();
        tableRows();
        streams();
        chains();
        longChain();
        freeOnes();
        freeWithHeads();
        mostTold();
        throwingChangesNothing();
        System.out.println(wrong == 0 ? "all promises hold" : wrong + " answers are not as due");
        if (wrong != 0) {
            System.exit(1);
        }
    }
}
