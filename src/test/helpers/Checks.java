import java.util.NoSuchElementException;

/** What the tests by hand share: sentences of the document, the answers that are due, sections made from texts. */
class Checks {
    static final long LAST_PLACE = 9999999999L;
    static final Class<?> ILLEGAL = IllegalArgumentException.class;
    static final Class<?> UNSUPPORTED = UnsupportedOperationException.class;
    static final Class<?> MISSING = NoSuchElementException.class;
    static final Class<?> INDEX = IndexOutOfBoundsException.class;
    static final Class<?> ARRAY_INDEX = ArrayIndexOutOfBoundsException.class;

    private static int wrong = 0;
    private static int sentences = 0;
    private static String words = "";

    interface Call {
        long answer();
    }

    /** One sentence of the document, in its own words, and the test of it. */
    static void sentence(String text, Runnable test) {
        words = text;
        sentences++;
        try {
            test.run();
        } catch (RuntimeException e) {
            fail("throws " + e);
        }
    }

    /** Tells how it went, and ends the program with code 1 if an answer was not as due. */
    static void end() {
        System.out.println(sentences + " sentences, " + wrong + " answers not as due");
        if (wrong != 0) {
            System.exit(1);
        }
    }

    private static void fail(String text) {
        wrong++;
        System.out.println("\"" + words + "\": " + text);
    }

    static void due(String what, long got, long want) {
        due(what, String.valueOf(got), String.valueOf(want));
    }

    static void due(String what, String got, String want) {
        if (!got.equals(want)) {
            fail(what + " answered '" + got + "', due is '" + want + "'");
        }
    }

    static void dueThrow(String what, Class<?> want, Call call) {
        due(what, answerOf(call), "throws." + want.getSimpleName());
    }

    static String answerOf(Call call) {
        try {
            return String.valueOf(call.answer());
        } catch (RuntimeException e) {
            return "throws." + e.getClass().getSimpleName() + (isByMachine(e) ? " by the machine" : "");
        }
    }

    /** The machine's own texts begin like this; the class must throw by itself. */
    private static boolean isByMachine(RuntimeException e) {
        String text = e.getMessage();
        return text != null && (text.startsWith("Index ") || text.startsWith("Cannot "));
    }

    static void fill(CrossTables x, int section, String bytes) {
        for (int i = 0; i < bytes.length(); i++) {
            x.add(section, (byte) bytes.charAt(i));
        }
    }

    static int table(CrossTables x, long place, long before, String bytes) {
        int section = x.section(0, place, before);
        fill(x, section, bytes);
        return section;
    }

    static int stream(CrossTables x, long place, long before, int... bytes) {
        int section = x.section(1, place, before);
        for (int b : bytes) {
            x.add(section, (byte) b);
        }
        return section;
    }

    /** A row of 20 bytes, when the numbers are not too long for it. */
    static String row(long first, long second, char sign) {
        return String.format("%010d %05d %c \n", first, second, sign);
    }

    /** A new object with one table, at place 0, that has been read. */
    static CrossTables afterTable(String bytes) {
        CrossTables x = new CrossTables();
        table(x, 0, -1, bytes);
        x.read(0);
        return x;
    }

    static String toldOfTable(String bytes) {
        return allTold(afterTable(bytes));
    }

    /** All that was told, as kind/section or object/number. */
    static String allTold(CrossTables x) {
        StringBuilder all = new StringBuilder();
        long count = x.told(-1, 0);
        for (int i = 0; i < count; i++) {
            all.append(i == 0 ? "" : " ").append(x.told(i, 0)).append('/').append(x.told(i, 1));
            all.append('/').append(x.told(i, 2));
        }
        return all.toString();
    }

    /** The kinds of the objects from one to another, digit by digit. */
    static String kinds(CrossTables x, int from, int to) {
        StringBuilder all = new StringBuilder();
        for (int object = from; object <= to; object++) {
            all.append(x.kind(object));
        }
        return all.toString();
    }

    /** What counts for an object, as place/generation. */
    static String counting(CrossTables x, int object) {
        return x.place(object, 0) + "/" + x.place(object, 1);
    }

    static String revisions(CrossTables x, int object) {
        StringBuilder all = new StringBuilder();
        int count = x.revision(object, -1);
        for (int i = 0; i < count; i++) {
            all.append(i == 0 ? "" : " ").append(x.revision(object, i));
        }
        return all.toString();
    }

    static String allFree(CrossTables x) {
        StringBuilder all = new StringBuilder();
        int count = x.free(-1);
        for (int i = 0; i < count; i++) {
            all.append(i == 0 ? "" : " ").append(x.free(i));
        }
        return all.toString();
    }
}
