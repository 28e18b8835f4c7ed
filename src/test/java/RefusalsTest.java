/** What the document says of all calls that throw: they change nothing, and the exception named first is thrown. */
public final class RefusalsTest extends Checks {
    private interface Refused {
        long callOn(CrossTables x);
    }

    private static void missingSections() {
        sentence("NoSuchElementException: there is no such section", () -> {
            for (int sections = 0; sections <= 12; sections += 4) {
                CrossTables x = new CrossTables();
                for (int i = 0; i < sections; i++) {
                    x.section(i % 2, i, -1);
                }
                for (int missing : new int[] {-1, sections, 12, 13, Integer.MIN_VALUE, Integer.MAX_VALUE}) {
                    dueMissing(x, missing, " of " + missing + " when there are " + sections);
                }
            }
        });
    }

    private static void dueMissing(CrossTables x, int section, String words) {
        dueThrow("add" + words, MISSING, () -> x.add(section, (byte) 0));
        dueThrow("octet" + words, MISSING, () -> x.octet(section, 0));
        dueThrow("beside" + words, MISSING, () -> x.beside(section, 0));
        dueThrow("widths" + words, MISSING, () -> x.widths(section, 1, 1, 1));
        dueThrow("run" + words, MISSING, () -> x.run(section, 0, 1));
        dueThrow("key" + words, MISSING, () -> x.key(section, 0, 0));
        dueThrow("value" + words, MISSING, () -> x.value(section, 0));
    }

    private static void namedFirst() {
        sentence("it is the one that it names first: no such section, and another", () -> {
            CrossTables x = new CrossTables();
            x.section(1, 0, -1);
            for (int missing : new int[] {-1, 1}) {
                dueThrow("octet", MISSING, () -> x.octet(missing, -1));
                dueThrow("beside", MISSING, () -> x.beside(missing, -2));
                dueThrow("widths", MISSING, () -> x.widths(missing, 5, 5, 5));
                dueThrow("run, first", MISSING, () -> x.run(missing, -1, 1));
                dueThrow("run, many", MISSING, () -> x.run(missing, 0, 0));
                dueThrow("key", MISSING, () -> x.key(missing, 10, 0));
                dueThrow("value", MISSING, () -> x.value(missing, 10));
            }
        });
        sentence("it is the one that it names first: section", () -> {
            CrossTables x = full();
            dueThrow("kind", ILLEGAL, () -> x.section(2, 77, -1));
            dueThrow("place", ILLEGAL, () -> x.section(0, -1, -1));
            dueThrow("the place of another one", ILLEGAL, () -> x.section(0, 11, -1));
            dueThrow("before", ILLEGAL, () -> x.section(0, 77, -2));
            dueThrow("none of them", UNSUPPORTED, () -> x.section(0, 77, -1));
        });
        sentence("it is the one that it names first: run", () -> {
            CrossTables x = full();
            dueThrow("first", ILLEGAL, () -> x.run(1, 1000, 1));
            dueThrow("many", ILLEGAL, () -> x.run(1, 0, 101));
            dueThrow("none of them", UNSUPPORTED, () -> x.run(1, 0, 1));
        });
        sentence("it is the one that it names first: head", () -> {
            CrossTables x = full();
            dueThrow("place", ILLEGAL, () -> x.head(LAST_PLACE + 1, 0, 0));
            dueThrow("object", ILLEGAL, () -> x.head(77, 100, 0));
            dueThrow("generation", ILLEGAL, () -> x.head(77, 0, 100000));
            dueThrow("object, at the place of another one", ILLEGAL, () -> x.head(0, 100, 0));
            dueThrow("none of them", UNSUPPORTED, () -> x.head(77, 0, 0));
        });
    }

    /** A table with a stream before it and one beside; heads, keys; read. */
    private static CrossTables scene() {
        CrossTables x = new CrossTables();
        table(x, 10, 20, "0 3 " + row(2, 0, 'f') + row(17, 0, 'n') + row(0, 5, 'f'));
        stream(x, 20, 99, 2, 0, 1, 4);
        stream(x, 30, -1, 1, 0, 18, 5);
        x.run(1, 3, 1);
        x.run(2, 4, 1);
        x.beside(0, 30);
        x.key(0, 1, 11);
        x.key(1, 2, 12);
        x.head(17, 1, 0);
        x.head(18, 2, 5);
        x.read(10);
        return x;
    }

    /** All that the scene answers, then what some more calls answer, and all again. */
    private static String answersOf(CrossTables x) {
        StringBuilder all = new StringBuilder(readingOf(x));
        all.append(" values ").append(x.value(0, 1)).append(' ').append(x.value(0, 2)).append(' ').append(x.value(1, 2));
        all.append(" bytes ").append(x.octet(0, 0)).append(' ').append(x.octet(0, 63)).append(' ').append(x.octet(1, 3));
        all.append(" more ").append(x.add(0, (byte) 32)).append(' ').append(x.add(1, (byte) 0));
        all.append(' ').append(x.run(1, 5, 1)).append(' ').append(x.beside(0, 30));
        all.append(' ').append(x.key(0, 1, 13)).append(' ').append(x.key(0, 2, 0)).append(' ').append(x.key(0, 9, 0));
        all.append(' ').append(x.key(1, 1, 0)).append(' ').append(x.key(1, 0, 0));
        all.append(' ').append(x.head(17, 1, 0)).append(' ').append(x.head(70, 3, 0));
        all.append(' ').append(x.read(50)).append(' ').append(x.read(10)).append(readingOf(x));
        all.append(' ').append(x.section(0, 40, 10)).append(' ').append(x.section(1, 50, 40));
        return all.append(' ').append(x.read(50)).append(readingOf(x)).toString();
    }

    private static String readingOf(CrossTables x) {
        StringBuilder all = new StringBuilder(" told ").append(allTold(x)).append(" kinds ").append(kinds(x, 0, 5));
        for (int object = 0; object < 5; object++) {
            all.append(' ').append(counting(x, object)).append(" in ").append(x.revision(object, -1));
        }
        all.append(" free ").append(allFree(x)).append(" trailers ").append(x.trailer(1)).append(' ').append(x.trailer(2));
        return all.toString();
    }

    private static void dueUnchanged(String what, Refused call) {
        CrossTables x = scene();
        due(what + " throws", answerOf(() -> call.callOn(x)).startsWith("throws.") ? 1 : 0, 1);
        due(what, answersOf(x), answersOf(scene()));
    }

    private static void changesNothing() {
        sentence("the scene of these tests has something to lose", () -> {
            String want = " told 2/1/99 6/2/18 7/4/18 kinds 121340 2/0 in 1 17/0 in 1 0/5 in 1 1/4 in 1 18/5 in 1"
                    + " free 2 trailers 0 1";
            due("its reading", readingOf(scene()), want);
        });
        sentence("A call that throws changes nothing: section", () -> {
            dueUnchanged("kind", x -> x.section(2, 40, -1));
            dueUnchanged("place", x -> x.section(0, LAST_PLACE + 1, -1));
            dueUnchanged("the place of another one", x -> x.section(1, 10, -1));
            dueUnchanged("before", x -> x.section(0, 50, -2));
        });
        sentence("A call that throws changes nothing: add, octet", () -> {
            dueUnchanged("add", x -> x.add(3, (byte) 1));
            dueUnchanged("octet", x -> x.octet(0, 64));
        });
        sentence("A call that throws changes nothing: beside", () -> {
            dueUnchanged("a stream", x -> x.beside(1, 20));
            dueUnchanged("place", x -> x.beside(0, LAST_PLACE + 1));
            dueUnchanged("place -2", x -> x.beside(0, -2));
        });
        sentence("A call that throws changes nothing: widths", () -> {
            dueUnchanged("a table", x -> x.widths(0, 2, 2, 2));
            dueUnchanged("a", x -> x.widths(1, 5, 1, 2));
            dueUnchanged("b", x -> x.widths(1, 2, 5, 2));
            dueUnchanged("c", x -> x.widths(1, 2, 1, 5));
        });
        sentence("A call that throws changes nothing: run", () -> {
            dueUnchanged("a table", x -> x.run(0, 5, 1));
            dueUnchanged("first", x -> x.run(1, 1000, 1));
            dueUnchanged("many", x -> x.run(1, 5, 101));
        });
        sentence("A call that throws changes nothing: key", () -> {
            dueUnchanged("key 10", x -> x.key(0, 10, 5));
            dueUnchanged("key -1", x -> x.key(0, -1, 5));
        });
        sentence("A call that throws changes nothing: head", () -> {
            dueUnchanged("place", x -> x.head(LAST_PLACE + 1, 2, 5));
            dueUnchanged("object", x -> x.head(17, 100, 0));
            dueUnchanged("generation", x -> x.head(17, 1, 100000));
            dueUnchanged("generation, at a new place", x -> x.head(5, 2, -1));
        });
        sentence("A call that throws changes nothing: those that only ask", () -> {
            dueUnchanged("kind", x -> x.kind(100));
            dueUnchanged("place, object", x -> x.place(100, 0));
            dueUnchanged("place, what", x -> x.place(0, 2));
            dueUnchanged("revision", x -> x.revision(0, -2));
            dueUnchanged("told", x -> x.told(3, 0));
            dueUnchanged("free", x -> x.free(-2));
            dueUnchanged("trailer", x -> x.trailer(10));
            dueUnchanged("value", x -> x.value(0, 10));
        });
    }

    /** As much as there may be of sections, of bytes (in 0), of runs (in 1), and of heads: 386 calls. */
    private static CrossTables full() {
        CrossTables x = new CrossTables();
        for (int i = 0; i < 12; i++) {
            x.section(i % 2, i, -1);
        }
        fill(x, 0, "y" + " ".repeat(298) + "z");
        x.widths(1, 1, 0, 0);
        for (int object = 1; object <= 6; object++) {
            x.add(1, (byte) 0);
            x.run(1, object, 1);
        }
        for (int i = 0; i < 60; i++) {
            x.head(i, i == 30 ? 3 : 50, i);
        }
        x.read(1);
        return x;
    }

    private static String answersOfFull(CrossTables x) {
        StringBuilder all = new StringBuilder(allTold(x)).append(' ').append(kinds(x, 1, 7));
        all.append(' ').append(x.octet(0, 0)).append(' ').append(x.octet(0, 1)).append(' ').append(x.octet(0, 299));
        all.append(' ').append(answerOf(() -> x.octet(0, 300))).append(' ').append(answerOf(() -> x.add(0, (byte) 0)));
        all.append(' ').append(x.read(77)).append(' ').append(x.read(0)).append(' ').append(allTold(x));
        all.append(' ').append(x.read(1)).append(' ').append(allTold(x)).append(' ').append(kinds(x, 1, 7));
        all.append(' ').append(x.head(59, 50, 59)).append(' ').append(answerOf(() -> x.head(60, 1, 0)));
        all.append(' ').append(answerOf(() -> x.run(1, 7, 1))).append(' ').append(answerOf(() -> x.section(0, 78, -1)));
        return all.toString();
    }

    private static void fullChangesNothing() {
        String full = "throws.UnsupportedOperationException";
        String want = "6/3/30 1111110 121 32 122 throws.ArrayIndexOutOfBoundsException " + full
                + " -1 0 4/0/0 6 6/3/30 1111110 60 " + full + " " + full + " " + full;
        sentence("A call that throws changes nothing: when there are 12 sections", () -> {
            CrossTables x = full();
            dueThrow("section", UNSUPPORTED, () -> x.section(1, 77, -1));
            due("the answers", answersOfFull(x), want);
        });
        sentence("A call that throws changes nothing: when it has 300 bytes", () -> {
            CrossTables x = full();
            dueThrow("add", UNSUPPORTED, () -> x.add(0, (byte) 1));
            due("the answers", answersOfFull(x), want);
        });
        sentence("A call that throws changes nothing: when it has 6 runs", () -> {
            CrossTables x = full();
            dueThrow("run", UNSUPPORTED, () -> x.run(1, 7, 1));
            due("the answers", answersOfFull(x), want);
        });
        sentence("A call that throws changes nothing: when there are 60 heads", () -> {
            CrossTables x = full();
            dueThrow("head", UNSUPPORTED, () -> x.head(60, 2, 0));
            due("the answers", answersOfFull(x), want);
        });
    }

    public static void main(String[] args) {
        missingSections();
        namedFirst();
        changesNothing();
        fullChangesNothing();
        end();
    }
}
