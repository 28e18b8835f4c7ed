/** Promises 1 to 17, sentence by sentence: ordinary inputs, the edges that they name, wrong inputs. */
public final class PromisesTest extends Checks {
    private static final int LOW = Integer.MIN_VALUE;
    private static final int HIGH = Integer.MAX_VALUE;

    /** Promise 1. */
    private static void newObject() {
        sentence("No sections", () -> {
            CrossTables x = new CrossTables();
            dueThrow("octet", MISSING, () -> x.octet(0, 0));
            due("read(0)", x.read(0), -1);
            due("read(-1)", x.read(-1), -1);
            due("the first section", x.section(1, 0, -1), 0);
        });
        sentence("no heads", () -> {
            CrossTables x = new CrossTables();
            table(x, 5, -1, "0 1 " + row(0, 0, 'n') + "1 1 " + row(0, 0, 'f'));
            x.read(5);
            due("no head stands at place 0, or is of object 1", allTold(x), "7/0/0");
            due("the first head", x.head(0, 0, 0), 1);
        });
        sentence("nothing is read", () -> {
            CrossTables x = new CrossTables();
            dueNothingRead(x);
        });
        sentence("nothing is read: sections and keys alone are no reading", () -> {
            CrossTables x = new CrossTables();
            table(x, 0, 7, "0 1 " + row(0, 0, 'f'));
            x.key(0, 0, 1);
            dueNothingRead(x);
        });
    }

    private static void dueNothingRead(CrossTables x) {
        for (int object = 0; object < 100; object += 11) {
            due("kind", x.kind(object), 0);
            due("place and generation", counting(x, object), "-1/-1");
            due("how many revisions", x.revision(object, -1), 0);
            due("the first revision", x.revision(object, 0), -1);
        }
        due("how many told", x.told(-1, 0), 0);
        dueThrow("the first told", INDEX, () -> x.told(0, 0));
        due("how many free", x.free(-1), 0);
        due("the first free", x.free(0), -1);
        for (int key = 0; key < 10; key++) {
            due("trailer", x.trailer(key), -1);
        }
    }

    /** Promise 2. */
    private static void section() {
        sentence("A section without bytes: its number", () -> {
            CrossTables x = new CrossTables();
            for (int i = 0; i < 12; i++) {
                int number = i;
                due("section", x.section(i % 2, i, -1), i);
                dueThrow("its first byte", ARRAY_INDEX, () -> x.octet(number, 0));
                due("its value of a key", x.value(i, i % 10), 0);
                due("its first key", x.key(i, i % 10, 0), 0);
            }
            due("beside a new table", x.beside(0, 0), -1);
            due("the first run of a new stream", x.run(1, 0, 1), 1);
        });
        sentence("IllegalArgumentException when kind is not 0, 1", () -> {
            CrossTables x = new CrossTables();
            for (int kind : new int[] {-1, 2, LOW, HIGH}) {
                dueThrow("kind " + kind, ILLEGAL, () -> x.section(kind, 0, -1));
            }
            due("kind 0", x.section(0, 0, -1), 0);
            due("kind 0 is a table", x.beside(0, -1), -1);
            due("kind 1", x.section(1, 1, -1), 1);
            due("kind 1 is a stream", x.widths(1, 1, 1, 1), 3);
        });
        sentence("place not 0 .. 9999999999", () -> {
            CrossTables x = new CrossTables();
            for (long place : new long[] {-1, LAST_PLACE + 1, Long.MIN_VALUE, Long.MAX_VALUE}) {
                dueThrow("place " + place, ILLEGAL, () -> x.section(0, place, -1));
            }
            due("place 0", x.section(0, 0, -1), 0);
            due("the last place", x.section(0, LAST_PLACE, -1), 1);
        });
        sentence("or that of another one", () -> {
            CrossTables x = new CrossTables();
            x.section(0, 0, -1);
            x.section(1, LAST_PLACE, -1);
            dueThrow("a table's, for a table", ILLEGAL, () -> x.section(0, 0, -1));
            dueThrow("a table's, for a stream", ILLEGAL, () -> x.section(1, 0, -1));
            dueThrow("a stream's", ILLEGAL, () -> x.section(0, LAST_PLACE, -1));
            due("a free one, the same in its low half", x.section(0, 4294967296L, -1), 2);
        });
        sentence("or before not -1 .. 9999999999", () -> {
            CrossTables x = new CrossTables();
            for (long before : new long[] {-2, LAST_PLACE + 1, Long.MIN_VALUE, Long.MAX_VALUE}) {
                dueThrow("before " + before, ILLEGAL, () -> x.section(0, 0, before));
            }
            due("before -1", x.section(0, 0, -1), 0);
            due("before 0", x.section(0, 1, 0), 1);
            due("before the last place", x.section(0, 2, LAST_PLACE), 2);
            due("before itself", x.section(0, 3, 3), 3);
        });
        sentence("UnsupportedOperationException when there are 12", () -> {
            CrossTables x = new CrossTables();
            for (int i = 0; i < 12; i++) {
                due("section", x.section(0, i, -1), i);
            }
            dueThrow("the 13th table", UNSUPPORTED, () -> x.section(0, 12, -1));
            dueThrow("the 13th stream", UNSUPPORTED, () -> x.section(1, 12, -1));
        });
    }

    /** Promise 3. */
    private static void add() {
        sentence("A byte behind a section's: how many it has", () -> {
            CrossTables x = new CrossTables();
            x.section(0, 0, -1);
            x.section(1, 1, -1);
            due("the first", x.add(0, (byte) 7), 1);
            due("the first of another section", x.add(1, (byte) 8), 1);
            due("the second", x.add(0, (byte) 9), 2);
            due("the bytes", x.octet(0, 0) + "/" + x.octet(0, 1) + "/" + x.octet(1, 0), "7/9/8");
        });
        sentence("UnsupportedOperationException when it has 300", () -> {
            for (int kind = 0; kind < 2; kind++) {
                CrossTables x = new CrossTables();
                x.section(kind, 0, -1);
                x.section(kind, 1, -1);
                for (int i = 0; i < 300; i++) {
                    due("add", x.add(0, (byte) i), i + 1);
                }
                dueThrow("the 301st", UNSUPPORTED, () -> x.add(0, (byte) 0));
                due("the first of another section", x.add(1, (byte) 0), 1);
            }
        });
    }

    /** Promise 4. */
    private static void octet() {
        sentence("A byte of a section", () -> {
            CrossTables x = new CrossTables();
            x.section(0, 0, -1);
            for (int b = -128; b < 108; b++) {
                x.add(0, (byte) b);
            }
            for (int i = 0; i < 236; i++) {
                due("octet", x.octet(0, i), i - 128);
            }
        });
        sentence("A byte of a section: the highest, and the last of 300", () -> {
            CrossTables x = new CrossTables();
            x.section(1, 0, -1);
            fill(x, 0, "a".repeat(299) + (char) 127);
            due("octet 298", x.octet(0, 298), 97);
            due("octet 299", x.octet(0, 299), 127);
            dueThrow("octet 300", ARRAY_INDEX, () -> x.octet(0, 300));
        });
        sentence("ArrayIndexOutOfBoundsException", () -> {
            CrossTables x = new CrossTables();
            x.section(0, 0, -1);
            dueThrow("no bytes", ARRAY_INDEX, () -> x.octet(0, 0));
            x.add(0, (byte) 1);
            for (int i : new int[] {-1, 1, 299, 300, LOW, HIGH}) {
                dueThrow("octet " + i, ARRAY_INDEX, () -> x.octet(0, i));
            }
        });
    }

    /** Promise 5. */
    private static void beside() {
        sentence("The place beside a table: the one that it had", () -> {
            CrossTables x = new CrossTables();
            x.section(0, 0, 3);
            x.section(0, 1, -1);
            due("at first", x.beside(0, LAST_PLACE), -1);
            due("the last place", x.beside(0, 0), LAST_PLACE);
            due("0, its own", x.beside(0, -1), 0);
            due("none", x.beside(0, 5), -1);
            due("the same again", x.beside(0, 5), 5);
            due("another table's, at first", x.beside(1, 5), -1);
        });
        sentence("IllegalArgumentException when it is a stream", () -> {
            CrossTables x = new CrossTables();
            x.section(1, 0, -1);
            dueThrow("beside a stream", ILLEGAL, () -> x.beside(0, 0));
            dueThrow("none beside a stream", ILLEGAL, () -> x.beside(0, -1));
        });
        sentence("or place not -1 .. 9999999999 (beside)", () -> {
            CrossTables x = new CrossTables();
            x.section(0, 0, -1);
            for (long place : new long[] {-2, LAST_PLACE + 1, Long.MIN_VALUE, Long.MAX_VALUE}) {
                dueThrow("place " + place, ILLEGAL, () -> x.beside(0, place));
            }
            due("still none", x.beside(0, 1), -1);
        });
    }

    /** Promise 6. */
    private static void widths() {
        sentence("The widths of a stream: how many bytes a row has then", () -> {
            CrossTables x = new CrossTables();
            x.section(1, 0, -1);
            due("0 0 0", x.widths(0, 0, 0, 0), 0);
            due("4 4 4", x.widths(0, 4, 4, 4), 12);
            due("4 0 0", x.widths(0, 4, 0, 0), 4);
            due("0 4 0", x.widths(0, 0, 4, 0), 4);
            due("0 0 4", x.widths(0, 0, 0, 4), 4);
            due("1 2 4", x.widths(0, 1, 2, 4), 7);
        });
        sentence("The widths of a stream: each at its own", () -> {
            CrossTables x = new CrossTables();
            stream(x, 0, -1, 2, 1, 2, 3, 4, 5);
            x.run(0, 7, 1);
            x.widths(0, 1, 2, 3);
            x.read(0);
            due("1 2 3", counting(x, 7), 0x0102 + "/" + 0x030405);
            x.widths(0, 1, 3, 2);
            x.read(0);
            due("1 3 2", counting(x, 7), 0x010203 + "/" + 0x0405);
        });
        sentence("IllegalArgumentException when it is a table (widths)", () -> {
            CrossTables x = new CrossTables();
            x.section(0, 0, -1);
            dueThrow("a table", ILLEGAL, () -> x.widths(0, 1, 2, 1));
        });
        sentence("or one is not 0 .. 4", () -> {
            CrossTables x = new CrossTables();
            x.section(1, 0, -1);
            for (int bad : new int[] {-1, 5, LOW, HIGH}) {
                dueThrow("a " + bad, ILLEGAL, () -> x.widths(0, bad, 0, 0));
                dueThrow("b " + bad, ILLEGAL, () -> x.widths(0, 0, bad, 0));
                dueThrow("c " + bad, ILLEGAL, () -> x.widths(0, 0, 0, bad));
            }
        });
    }

    /** Promise 7. */
    private static void run() {
        sentence("A run of a stream: how many it has", () -> {
            CrossTables x = new CrossTables();
            x.section(1, 0, -1);
            x.section(1, 1, -1);
            due("the first", x.run(0, 0, 1), 1);
            due("the same again", x.run(0, 0, 1), 2);
            due("the first of another stream", x.run(1, 0, 1), 1);
        });
        sentence("IllegalArgumentException when it is a table (run)", () -> {
            CrossTables x = new CrossTables();
            x.section(0, 0, -1);
            dueThrow("a table", ILLEGAL, () -> x.run(0, 0, 1));
        });
        sentence("first is not 0 .. 999", () -> {
            CrossTables x = new CrossTables();
            x.section(1, 0, -1);
            for (int first : new int[] {-1, 1000, LOW, HIGH}) {
                dueThrow("first " + first, ILLEGAL, () -> x.run(0, first, 1));
            }
            due("first 0", x.run(0, 0, 1), 1);
            due("first 999", x.run(0, 999, 1), 2);
        });
        sentence("or many not 1 .. 100", () -> {
            CrossTables x = new CrossTables();
            x.section(1, 0, -1);
            for (int many : new int[] {0, -1, 101, LOW, HIGH}) {
                dueThrow("many " + many, ILLEGAL, () -> x.run(0, 0, many));
            }
            due("many 1", x.run(0, 0, 1), 1);
            due("many 100", x.run(0, 999, 100), 2);
        });
        sentence("UnsupportedOperationException when it has 6", () -> {
            CrossTables x = new CrossTables();
            x.section(1, 0, -1);
            x.section(1, 1, -1);
            for (int i = 1; i <= 6; i++) {
                due("run", x.run(0, i, 1), i);
            }
            dueThrow("the 7th", UNSUPPORTED, () -> x.run(0, 7, 1));
            due("the first of another stream", x.run(1, 7, 1), 1);
        });
    }

    /** Promise 8. */
    private static void key() {
        sentence("A section's value of a key: 1 if it had one (it is that then), else 0", () -> {
            CrossTables x = new CrossTables();
            x.section(0, 0, -1);
            x.section(1, 1, -1);
            for (int key = 0; key < 10; key++) {
                due("the first value", x.key(0, key, key - 5), 0);
            }
            due("another value", x.key(0, 9, LOW), 1);
            due("it is that then", x.value(0, 9), LOW);
            due("the highest value", x.key(0, 9, HIGH), 1);
            due("it is that then", x.value(0, 9), HIGH);
            due("the key below keeps its own", x.value(0, 8), 3);
            due("another section has none", x.key(1, 9, 1), 0);
        });
        sentence("1 if it had one: 0 is a value, too", () -> {
            CrossTables x = new CrossTables();
            x.section(1, 0, -1);
            due("0 as the first value", x.key(0, 4, 0), 0);
            due("0 again", x.key(0, 4, 0), 1);
            due("0 is none of another key", x.key(0, 5, 0), 0);
        });
        sentence("IllegalArgumentException when key is not 0 .. 9 (key)", () -> {
            CrossTables x = new CrossTables();
            x.section(0, 0, -1);
            for (int key : new int[] {-1, 10, LOW, HIGH}) {
                dueThrow("key " + key, ILLEGAL, () -> x.key(0, key, 1));
            }
        });
    }

    /** Promise 9. */
    private static void head() {
        sentence("A head stands at a place: how many there are", () -> {
            CrossTables x = new CrossTables();
            due("the first", x.head(0, 0, 0), 1);
            due("of the same object", x.head(1, 0, 0), 2);
            due("the highest of all", x.head(LAST_PLACE, 99, 99999), 3);
            table(x, 0, -1, "99 1 9999999999 99999 n ");
            x.read(0);
            due("it stands there", x.kind(99), 2);
        });
        sentence("(in place of another one", () -> {
            CrossTables x = new CrossTables();
            x.head(5, 1, 0);
            x.head(6, 1, 0);
            due("another object's", x.head(5, 2, 7), 2);
            due("the same again", x.head(5, 2, 7), 2);
            table(x, 0, -1, "1 2 " + row(5, 0, 'n') + row(5, 7, 'n'));
            x.read(0);
            due("the newer one stands", kinds(x, 1, 2), "42");
        });
        sentence("also when there are 60)", () -> {
            CrossTables x = withHeads(60);
            due("the first place", x.head(0, 1, 9), 60);
            due("the last place", x.head(59, 2, 9), 60);
            table(x, 0, -1, "1 2 " + row(0, 9, 'n') + row(59, 9, 'n'));
            x.read(0);
            due("the newer ones stand", kinds(x, 1, 2), "22");
        });
        sentence("IllegalArgumentException when place is not 0 .. 9999999999 (head)", () -> {
            CrossTables x = new CrossTables();
            for (long place : new long[] {-1, LAST_PLACE + 1, Long.MIN_VALUE, Long.MAX_VALUE}) {
                dueThrow("place " + place, ILLEGAL, () -> x.head(place, 0, 0));
            }
            due("the first", x.head(LAST_PLACE, 0, 0), 1);
        });
        sentence("object not 0 .. 99", () -> {
            CrossTables x = new CrossTables();
            for (int object : new int[] {-1, 100, LOW, HIGH}) {
                dueThrow("object " + object, ILLEGAL, () -> x.head(0, object, 0));
            }
            due("object 99", x.head(0, 99, 0), 1);
        });
        sentence("or generation not 0 .. 99999", () -> {
            CrossTables x = new CrossTables();
            for (int generation : new int[] {-1, 100000, LOW, HIGH}) {
                dueThrow("generation " + generation, ILLEGAL, () -> x.head(0, 0, generation));
            }
            due("generation 99999", x.head(0, 0, 99999), 1);
        });
        sentence("UnsupportedOperationException when there are 60", () -> {
            CrossTables x = withHeads(59);
            due("the 60th", x.head(59, 0, 0), 60);
            dueThrow("the 61st", UNSUPPORTED, () -> x.head(60, 0, 0));
            dueThrow("the 61st, at the last place", UNSUPPORTED, () -> x.head(LAST_PLACE, 0, 0));
        });
    }

    /** Heads of object 50 at the places from 0 on. */
    private static CrossTables withHeads(int many) {
        CrossTables x = new CrossTables();
        for (int i = 0; i < many; i++) {
            due("head", x.head(i, 50, i), i + 1);
        }
        return x;
    }

    /** Promise 10. */
    private static void read() {
        sentence("THE CHAIN from a place is read: of how many objects something COUNTS", () -> {
            CrossTables x = new CrossTables();
            table(x, 0, 1, "3 2 " + row(0, 0, 'f') + row(0, 0, 'n'));
            stream(x, 1, -1, 2, 0, 0, 0, 9, 0, 0, 0);
            x.run(1, 4, 1);
            x.run(1, 99, 1);
            due("3 FREE, 4 WRONG, nothing of 99", x.read(0), 2);
            due("4 WITHIN", x.read(1), 1);
        });
        sentence("of how many objects something COUNTS: none, and all 100", () -> {
            CrossTables x = new CrossTables();
            table(x, 0, -1, "");
            stream(x, LAST_PLACE, -1);
            x.widths(1, 0, 0, 0);
            due("no rows", x.read(0), 0);
            due("no runs", x.read(LAST_PLACE), 0);
            x.run(1, 0, 100);
            due("all", x.read(LAST_PLACE), 100);
            due("the first and the last", x.kind(0) + "/" + x.kind(99), "4/4");
        });
        sentence("-1 when no section is there", () -> {
            CrossTables x = new CrossTables();
            x.section(0, 5, 4);
            x.beside(0, 6);
            for (long start : new long[] {4, 6, 0, -1, 4294967301L, LAST_PLACE + 1, Long.MIN_VALUE, Long.MAX_VALUE}) {
                due("read " + start, x.read(start), -1);
            }
            due("a section is there", x.read(5), 0);
        });
        sentence("(then nothing COUNTS, and nothing is TOLD)", () -> {
            CrossTables x = new CrossTables();
            table(x, 5, 7, "0 2 " + row(1, 0, 'f') + row(0, 0, 'f') + "3 1 " + row(0, 0, 'n'));
            x.key(0, 3, 1);
            due("read", x.read(5), 3);
            due("told", allTold(x), "2/0/7 7/3/0");
            due("nowhere", x.read(6), -1);
            dueNothingRead(x);
        });
    }

    /** Promise 11. */
    private static void kind() {
        sentence("0 nothing COUNTS, 1 FREE, 2 USED, 3 WITHIN, 4 WRONG", () -> {
            CrossTables x = new CrossTables();
            stream(x, 0, -1, 0, 0, 0, 0, 1, 0, 9, 4, 2, 0, 9, 4, 1, 0, 9, 4);
            x.run(0, 1, 4);
            x.head(9, 2, 4);
            due("read", x.read(0), 4);
            due("kinds", kinds(x, 0, 5), "012340");
        });
        sentence("What an object is by the latest reading", () -> {
            CrossTables x = new CrossTables();
            table(x, 0, -1, "1 1 " + row(17, 0, 'n'));
            table(x, 1, -1, "2 1 " + row(17, 0, 'n'));
            x.read(0);
            x.head(17, 1, 0);
            due("a head that came later", kinds(x, 1, 2), "40");
            x.read(0);
            due("read again", kinds(x, 1, 2), "20");
            x.head(17, 2, 0);
            due("a head that went later", kinds(x, 1, 2), "20");
            x.read(1);
            due("another reading", kinds(x, 1, 2), "02");
            fill(x, 1, "5 1 " + row(0, 0, 'f'));
            due("bytes that came later", x.kind(5), 0);
        });
        sentence("IndexOutOfBoundsException (kind)", () -> {
            CrossTables x = afterTable("99 1 " + row(0, 0, 'f'));
            for (int object : new int[] {-1, 100, LOW, HIGH}) {
                dueThrow("kind " + object, INDEX, () -> x.kind(object));
            }
            due("the last", x.kind(99), 1);
            due("the first", x.kind(0), 0);
        });
    }

    /** Promise 12. */
    private static void place() {
        sentence("0 its place (or next free object, or the object that it lies in), 1 its GENERATION", () -> {
            CrossTables x = new CrossTables();
            stream(x, 0, -1, 0, 1, 2, 3, 1, 4, 5, 6, 2, 7, 8, 9, 1, 4, 5, 7);
            x.run(0, 1, 4);
            x.head(1029, 2, 6);
            x.read(0);
            due("kinds", kinds(x, 1, 4), "1234");
            due("FREE", counting(x, 1), "258/3");
            due("USED", counting(x, 2), "1029/6");
            due("WITHIN", counting(x, 3), "1800/9");
            due("WRONG", counting(x, 4), "1029/7");
        });
        sentence("its place: the highest", () -> {
            CrossTables x = afterTable("0 1 9999999999 9999999999 f 99 1 0 0 f");
            due("object 0", counting(x, 0), "9999999999/9999999999");
            due("object 99", counting(x, 99), "0/0");
        });
        sentence("-1 when nothing does", () -> {
            CrossTables x = afterTable("1 1 " + row(7, 8, 'f'));
            due("object 0", counting(x, 0), "-1/-1");
            due("object 2", counting(x, 2), "-1/-1");
            x.read(9);
            due("object 1 behind a reading of nothing", counting(x, 1), "-1/-1");
        });
        sentence("IndexOutOfBoundsException (object, then another what)", () -> {
            CrossTables x = afterTable("1 1 " + row(7, 8, 'f'));
            for (int bad : new int[] {-1, LOW, HIGH}) {
                dueThrow("object " + bad, INDEX, () -> x.place(bad, 0));
                dueThrow("what " + bad, INDEX, () -> x.place(1, bad));
                dueThrow("both " + bad, INDEX, () -> x.place(bad, bad));
            }
            dueThrow("object 100", INDEX, () -> x.place(100, 1));
            dueThrow("what 2", INDEX, () -> x.place(1, 2));
            dueThrow("what 2 of one of which nothing counts", INDEX, () -> x.place(0, 2));
            due("object 99", x.place(99, 1), -1);
        });
    }

    /** Promise 13. */
    private static void revision() {
        sentence("The i-th section in THE CHAIN with a ROW that tells of an object", () -> {
            CrossTables x = new CrossTables();
            String own = "1 1 " + row(0, 0, 'f');
            table(x, 0, -1, own);
            table(x, 1, 0, "2 1 " + row(0, 0, 'f'));
            table(x, 2, 1, own + own);
            x.read(2);
            due("two rows in a section are one", revisions(x, 1), "2 0");
            due("one of another object", revisions(x, 2), "1");
            x.read(0);
            due("of the latest reading", revisions(x, 1), "0");
        });
        sentence("with a ROW that tells of an object: other ROWS do not count", () -> {
            CrossTables x = new CrossTables();
            stream(x, 0, 1, 3, 0, 0, 0);
            x.run(0, 1, 1);
            table(x, 1, -1, "x 1 1 " + row(0, 0, 'f'));
            x.read(0);
            due("a row that tells nothing, one that is not read", revisions(x, 1), "");
        });
        sentence("-1 when there is none such; i = -1: how many (revision)", () -> {
            CrossTables x = afterTable("1 1 " + row(0, 0, 'f'));
            due("how many", x.revision(1, -1), 1);
            due("the first", x.revision(1, 0), 0);
            due("the second", x.revision(1, 1), -1);
            due("the last int", x.revision(1, HIGH), -1);
            due("how many of another", x.revision(0, -1), 0);
            due("the first of another", x.revision(0, 0), -1);
            due("the 33rd, as far as an int has bits", x.revision(1, 32), -1);
        });
        sentence("IndexOutOfBoundsException (object, or i below -1)", () -> {
            CrossTables x = afterTable("99 1 " + row(0, 0, 'f'));
            for (int object : new int[] {-1, 100, LOW, HIGH}) {
                dueThrow("object " + object, INDEX, () -> x.revision(object, 0));
                dueThrow("how many of object " + object, INDEX, () -> x.revision(object, -1));
            }
            dueThrow("i -2", INDEX, () -> x.revision(99, -2));
            dueThrow("i lowest", INDEX, () -> x.revision(99, LOW));
            due("the last object", x.revision(99, -1), 1);
        });
    }

    /** Promise 14. */
    private static void told() {
        sentence("0 its kind, 1 its section or object, 2 its number", () -> {
            CrossTables x = new CrossTables();
            table(x, 0, -1, "");
            table(x, 1, LAST_PLACE, "3 1 " + row(4294967299L, 0, 'n'));
            x.read(1);
            due("a section's", x.told(0, 0) + "/" + x.told(0, 1) + "/" + x.told(0, 2), "2/1/9999999999");
            due("an object's", x.told(1, 0) + "/" + x.told(1, 1) + "/" + x.told(1, 2), "7/3/4294967299");
        });
        sentence("i = -1: how many, whatever what is", () -> {
            CrossTables x = new CrossTables();
            table(x, 0, 9, "");
            for (int what : new int[] {-1, 0, 2, 3, LOW, HIGH}) {
                due("before reading, what " + what, x.told(-1, what), 0);
            }
            x.read(0);
            for (int what : new int[] {-1, 0, 1, 2, 3, LOW, HIGH}) {
                due("what " + what, x.told(-1, what), 1);
            }
        });
        sentence("IndexOutOfBoundsException (i, another what)", () -> {
            CrossTables x = new CrossTables();
            table(x, 0, 9, "");
            x.read(0);
            for (int i : new int[] {-2, 1, 200, LOW, HIGH}) {
                dueThrow("i " + i, INDEX, () -> x.told(i, 0));
            }
            for (int what : new int[] {-1, 3, LOW, HIGH}) {
                dueThrow("what " + what, INDEX, () -> x.told(0, what));
            }
            x.read(1);
            dueThrow("nothing is told", INDEX, () -> x.told(0, 0));
        });
    }

    /** Promise 15. */
    private static void free() {
        sentence("from the next one that 0 tells on, each by the one before it", () -> {
            due("in their order", freeOf("0 4 2 0 f 0 0 f 3 0 f 1 0 f"), "2 3 1");
            due("to the last object and back", freeOf("0 1 99 0 f 99 1 1 0 f 1 1 0 0 f"), "99 1");
        });
        sentence("(none, unless what COUNTS for 0 is FREE)", () -> {
            due("0 is wrong", freeOf("0 3 2 0 n 1 0 f 1 0 f"), "");
            due("nothing counts for 0", freeOf("1 2 2 0 f 1 0 f"), "");
            due("0 is used", freeOfStream(1, 17), "");
            due("0 lies within", freeOfStream(2, 17), "");
            due("0 is free", freeOfStream(0, 17), "1 17");
        });
        sentence("as long as they are FREE", () -> {
            due("a wrong one ends them", freeOf("0 4 2 0 f 0 0 n 3 0 f 1 0 f"), "2 3");
            due("one of which nothing counts ends them", freeOf("0 3 2 0 f 1 0 f 9 0 f"), "2");
            due("one above the objects ends them", freeOf("0 2 1 0 f 100 0 f"), "1");
            due("one far above ends them", freeOf("0 2 1 0 f 9999999999 0 f"), "1");
            due("one above an int ends them", freeOf("0 3 1 0 f 4294967298 0 f 1 0 f"), "1");
            due("0 tells one above the objects", freeOf("0 2 100 0 f 0 0 f"), "");
            due("0 tells one above an int", freeOf("0 2 4294967297 0 f 0 0 f"), "");
        });
        sentence("and none comes twice", () -> {
            due("a ring", freeOf("0 4 2 0 f 2 0 f 3 0 f 1 0 f"), "2 3 1");
            due("one that tells itself", freeOf("0 2 1 0 f 1 0 f"), "1");
            due("a ring of two behind another", freeOf("0 4 1 0 f 2 0 f 3 0 f 2 0 f"), "1 2 3");
        });
        sentence("(0 ends them, too)", () -> {
            due("0 tells itself", freeOf("0 2 0 0 f 1 0 f"), "");
            due("the last tells 0", freeOf("0 3 1 0 f 2 0 f 0 0 f"), "1 2");
        });
        sentence("-1 when there is none such; i = -1: how many (free)", () -> {
            CrossTables x = afterTable("0 3 1 0 f 2 0 f 0 0 f");
            due("how many", x.free(-1), 2);
            due("the first, the second", x.free(0) + "/" + x.free(1), "1/2");
            due("the third", x.free(2), -1);
            due("the last int", x.free(HIGH), -1);
            x.read(1);
            due("how many behind a reading of nothing", x.free(-1), 0);
            due("the first behind a reading of nothing", x.free(0), -1);
        });
        sentence("none comes twice: in one reading, not in two", () -> {
            CrossTables x = afterTable("0 3 1 0 f 2 0 f 0 0 f");
            x.read(0);
            due("read again", allFree(x), "1 2");
            table(x, 1, 0, "0 2 2 0 f 0 0 f");
            x.read(1);
            due("another reading, with 1 behind no other", allFree(x), "2");
            x.read(0);
            due("as at first", allFree(x), "1 2");
        });
        sentence("from the next one on: 99 of them", () -> {
            CrossTables x = new CrossTables();
            table(x, 0, -1, "0 1 1 0 f");
            stream(x, 1, 0);
            x.widths(1, 1, 1, 0);
            x.run(1, 1, 99);
            for (int object = 1; object < 100; object++) {
                x.add(1, (byte) 0);
                x.add(1, (byte) (object + 1));
            }
            due("read", x.read(1), 100);
            due("how many", x.free(-1), 99);
            due("the last", x.free(98), 99);
            due("the 100th", x.free(99), -1);
            due("the 101st", x.free(100), -1);
        });
        sentence("IndexOutOfBoundsException (i below -1)", () -> {
            CrossTables x = afterTable("0 2 1 0 f 0 0 f");
            dueThrow("free -2", INDEX, () -> x.free(-2));
            dueThrow("free lowest", INDEX, () -> x.free(LOW));
        });
    }

    private static String freeOf(String bytes) {
        return allFree(afterTable(bytes));
    }

    /** Object 0 of a kind, object 1 the one that it tells, which tells another FREE one. */
    private static String freeOfStream(int first, int other) {
        CrossTables x = new CrossTables();
        stream(x, 0, -1, first, 0, 1, 0, 0, 0, other, 0, 0, 0, 0, 0);
        x.run(0, 0, 2);
        x.run(0, other, 1);
        x.head(1, 0, 0);
        x.read(0);
        due("kinds", kinds(x, 0, 1), (first + 1) + "1");
        return allFree(x);
    }

    /** Promise 16. */
    private static void trailer() {
        sentence("The section, the first in THE CHAIN, that has a value of a key", () -> {
            CrossTables x = new CrossTables();
            for (int i = 0; i < 12; i++) {
                x.section(0, i, i - 1);
                x.key(i, i % 10, 0);
            }
            x.read(11);
            for (int key = 0; key < 10; key++) {
                due("key " + key + ", of value 0", x.trailer(key), key < 2 ? key + 10 : key);
            }
            x.read(9);
            due("the first in a shorter chain", x.trailer(1), 1);
        });
        sentence("the first in THE CHAIN: one BESIDE is in it, behind its TABLE", () -> {
            CrossTables x = new CrossTables();
            x.section(0, 0, 2);
            x.section(0, 2, -1);
            x.section(1, 1, -1);
            x.beside(0, 1);
            x.key(1, 5, 1);
            x.key(2, 5, 1);
            x.read(0);
            due("the stream", x.trailer(5), 2);
            x.key(0, 5, 1);
            x.read(0);
            due("its table", x.trailer(5), 0);
        });
        sentence("-1 when none has", () -> {
            CrossTables x = new CrossTables();
            x.section(0, 0, -1);
            x.section(0, 1, 7);
            x.key(1, 5, 1);
            due("nothing is read", x.trailer(5), -1);
            x.read(0);
            due("one outside the chain has", x.trailer(5), -1);
            x.read(1);
            due("it has", x.trailer(5), 1);
            due("another key", x.trailer(4), -1);
            x.read(7);
            due("a reading of nothing", x.trailer(5), -1);
        });
        sentence("that has a value of a key: by the values of now", () -> {
            CrossTables x = new CrossTables();
            x.section(0, 0, -1);
            x.read(0);
            x.key(0, 3, 7);
            due("a value that came later", x.trailer(3), 0);
        });
        sentence("IllegalArgumentException when key is not 0 .. 9 (trailer)", () -> {
            CrossTables x = new CrossTables();
            for (int key : new int[] {-1, 10, LOW, HIGH}) {
                dueThrow("nothing read, key " + key, ILLEGAL, () -> x.trailer(key));
            }
            x.section(0, 0, -1);
            x.read(0);
            for (int key : new int[] {-1, 10, LOW, HIGH}) {
                dueThrow("key " + key, ILLEGAL, () -> x.trailer(key));
            }
        });
    }

    /** Promise 17. */
    private static void value() {
        sentence("The value of a key in a section; 0 without one", () -> {
            CrossTables x = new CrossTables();
            x.section(0, 0, -1);
            x.section(1, 1, -1);
            for (int key = 0; key < 10; key++) {
                due("without one", x.value(0, key), 0);
                x.key(1, key, key * 1000 - 4500);
            }
            for (int key = 0; key < 10; key++) {
                due("of a key", x.value(1, key), key * 1000 - 4500);
                due("of another section", x.value(0, key), 0);
            }
        });
        sentence("IllegalArgumentException when key is not 0 .. 9 (value)", () -> {
            CrossTables x = new CrossTables();
            x.section(0, 0, -1);
            for (int key : new int[] {-1, 10, LOW, HIGH}) {
                dueThrow("key " + key, ILLEGAL, () -> x.value(0, key));
            }
        });
    }

    public static void main(String[] args) {
        newObject();
        section();
        add();
        octet();
        beside();
        widths();
        run();
        key();
        head();
        read();
        kind();
        place();
        revision();
        told();
        free();
        trailer();
        value();
        end();
    }
}
