import java.nio.charset.StandardCharsets;
import java.util.ArrayList;
import java.util.Arrays;
import java.util.LinkedHashSet;
import java.util.List;
import java.util.Map;
import java.util.NoSuchElementException;
import java.util.Random;
import java.util.Set;
import java.util.TreeMap;
import java.util.regex.Matcher;
import java.util.regex.Pattern;

/**
 * Runs of calls, the same in every run of this test, on the class and on a second program that was written
 * from the document alone, with the library's lists and patterns; every answer must be the same.
 */
public final class ModelTest extends Checks {
    private static final int RUNS = 20000;
    /** Behind so many calls the document leaves the answers free. */
    private static final int MOST_CALLS = 512;

    /** The document, in other words than the class's. */
    private static final class Model {
        static final class Part {
            int number;
            boolean isTable;
            long place;
            long before;
            long beside = -1;
            StringBuilder bytes = new StringBuilder();
            int[] widths = {1, 2, 1};
            List<int[]> runs = new ArrayList<>();
            Map<Integer, Integer> values = new TreeMap<>();
        }

        record Row(long object, int kind, long place, long generation) { }

        record Head(int object, int generation) { }

        List<Part> parts = new ArrayList<>();
        Map<Long, Head> heads = new TreeMap<>();
        List<Part> chain = new ArrayList<>();
        List<long[]> told = new ArrayList<>();
        Map<Integer, Row> counting = new TreeMap<>();
        Map<Integer, Integer> kinds = new TreeMap<>();
        List<Set<Integer>> tellers = new ArrayList<>();

        static void refuse(boolean isWrong) {
            if (isWrong) {
                throw new IllegalArgumentException();
            }
        }

        static void full(boolean isFull) {
            if (isFull) {
                throw new UnsupportedOperationException();
            }
        }

        static void bound(boolean isOutside) {
            if (isOutside) {
                throw new IndexOutOfBoundsException();
            }
        }

        Part part(int number) {
            if (number < 0 || number >= parts.size()) {
                throw new NoSuchElementException();
            }
            return parts.get(number);
        }

        Part partAt(long place) {
            return parts.stream().filter(p -> p.place == place).findAny().orElse(null);
        }

        long section(int kind, long place, long before) {
            refuse(kind != 0 && kind != 1 || place < 0 || place > LAST_PLACE || partAt(place) != null);
            refuse(before < -1 || before > LAST_PLACE);
            full(parts.size() == 12);
            Part p = new Part();
            p.number = parts.size();
            p.isTable = kind == 0;
            p.place = place;
            p.before = before;
            parts.add(p);
            return p.number;
        }

        long add(int section, byte b) {
            Part p = part(section);
            full(p.bytes.length() == 300);
            return p.bytes.append((char) (b & 255)).length();
        }

        long octet(int section, int i) {
            Part p = part(section);
            if (i < 0 || i >= p.bytes.length()) {
                throw new ArrayIndexOutOfBoundsException();
            }
            return (byte) p.bytes.charAt(i);
        }

        long beside(int section, long place) {
            Part p = part(section);
            refuse(!p.isTable || place < -1 || place > LAST_PLACE);
            long old = p.beside;
            p.beside = place;
            return old;
        }

        long widths(int section, int... widths) {
            Part p = part(section);
            refuse(p.isTable || Arrays.stream(widths).anyMatch(w -> w < 0 || w > 4));
            p.widths = widths;
            return Arrays.stream(widths).sum();
        }

        long run(int section, int first, int many) {
            Part p = part(section);
            refuse(p.isTable || first < 0 || first > 999 || many < 1 || many > 100);
            full(p.runs.size() == 6);
            p.runs.add(new int[] {first, many});
            return p.runs.size();
        }

        long key(int section, int key, int value) {
            Part p = part(section);
            refuse(key < 0 || key > 9);
            return p.values.put(key, value) == null ? 0 : 1;
        }

        long head(long place, int object, int generation) {
            refuse(place < 0 || place > LAST_PLACE || object < 0 || object > 99 || generation < 0 || generation > 99999);
            full(heads.size() == 60 && !heads.containsKey(place));
            heads.put(place, new Head(object, generation));
            return heads.size();
        }

        long read(long start) {
            chain.clear();
            told.clear();
            counting.clear();
            kinds.clear();
            tellers.clear();
            Part here = partAt(start);
            if (here == null) {
                return -1;
            }
            while (here != null) {
                chain.add(here);
                Part other = here.beside == -1 ? null : partAt(here.beside);
                boolean goes = false;
                if (here.beside != -1) {
                    if (other == null || other.isTable) {
                        tell(2, here.number, here.beside);
                    } else if (chain.contains(other)) {
                        tell(1, here.number, here.beside);
                    } else {
                        goes = true;
                    }
                }
                take(here);
                if (goes) {
                    chain.add(other);
                    take(other);
                }
                Part next = here.before == -1 ? null : partAt(here.before);
                if (here.before != -1 && next == null) {
                    tell(2, here.number, here.before);
                } else if (next != null && chain.contains(next)) {
                    tell(1, here.number, here.before);
                    next = null;
                }
                here = next;
            }
            counting.forEach(this::judge);
            return counting.size();
        }

        void judge(int object, Row row) {
            kinds.put(object, row.kind);
            if (row.kind == 1 && object != 0) {
                heads.entrySet().stream().filter(h -> h.getValue().object == object).findFirst()
                        .ifPresent(h -> tell(6, object, h.getKey()));
            }
            Head head = heads.get(row.place);
            if (row.kind == 2 && (head == null || head.object != object || head.generation != row.generation)) {
                kinds.put(object, 4);
                tell(7, object, row.place);
            }
        }

        void tell(long kind, long whose, long number) {
            if (told.size() < 200) {
                told.add(new long[] {kind, whose, number});
            }
        }

        void take(Part p) {
            Set<Integer> objects = new LinkedHashSet<>();
            for (Row row : p.isTable ? rowsOfTable(p) : rowsOfStream(p)) {
                if (row.object <= 99 && row.kind != 0) {
                    objects.add((int) row.object);
                    counting.putIfAbsent((int) row.object, row);
                }
            }
            tellers.add(objects);
        }

        List<Row> rowsOfTable(Part p) {
            List<Row> rows = new ArrayList<>();
            List<String> words = new ArrayList<>();
            List<Integer> begins = new ArrayList<>();
            Matcher m = Pattern.compile("[^\\x00\\x09\\x0a\\x0c\\x0d\\x20]+").matcher(p.bytes);
            while (m.find()) {
                words.add(m.group());
                begins.add(m.start());
            }
            // Three ends: behind the last word there may be asked for as many.
            for (int i = 0; i < 4; i++) {
                words.add("");
                begins.add(p.bytes.length());
            }
            long turn = 0;
            long due = 0;
            int at = 0;
            while (due > 0 || !words.get(at).isEmpty()) {
                for (int i = at; i < at + 2; i++) {
                    if (!words.get(i).matches("[0-9]{1,10}")) {
                        tell(4, p.number, begins.get(i));
                        return rows;
                    }
                }
                long first = Long.parseLong(words.get(at));
                long second = Long.parseLong(words.get(at + 1));
                boolean isRow = words.get(at + 2).matches("[nf]");
                if (isRow != due > 0 || !isRow && second > 100) {
                    tell(4, p.number, begins.get(at));
                    return rows;
                }
                if (isRow) {
                    if (begins.get(at + 3) - begins.get(at) != 20) {
                        tell(3, p.number, begins.get(at));
                    }
                    rows.add(new Row(turn, words.get(at + 2).equals("n") ? 2 : 1, first, second));
                    turn++;
                    due--;
                    at += 3;
                } else {
                    turn = first;
                    due = second;
                    at += 2;
                }
            }
            return rows;
        }

        List<Row> rowsOfStream(Part p) {
            List<Row> rows = new ArrayList<>();
            List<Integer> bytes = new ArrayList<>();
            p.bytes.chars().forEach(bytes::add);
            for (int[] run : p.runs) {
                for (int object = run[0]; object < run[0] + run[1]; object++) {
                    long[] numbers = {1, 0, 0};
                    for (int field = 0; field < 3; field++) {
                        long number = 0;
                        for (int i = 0; i < p.widths[field]; i++) {
                            if (bytes.isEmpty()) {
                                tell(5, p.number, rows.size());
                                return rows;
                            }
                            number = number << 8 | bytes.remove(0);
                            numbers[field] = number;
                        }
                    }
                    int kind = numbers[0] > 2 ? 0 : (int) numbers[0] + 1;
                    rows.add(new Row(object, kind, numbers[1], numbers[2]));
                }
            }
            return rows;
        }

        long kind(int object) {
            bound(object < 0 || object > 99);
            return kinds.getOrDefault(object, 0);
        }

        long place(int object, int what) {
            bound(object < 0 || object > 99 || what < 0 || what > 1);
            Row row = counting.get(object);
            return row == null ? -1 : what == 0 ? row.place : row.generation;
        }

        long revision(int object, int i) {
            bound(object < 0 || object > 99 || i < -1);
            List<Integer> all = new ArrayList<>();
            for (int position = 0; position < chain.size(); position++) {
                if (tellers.get(position).contains(object)) {
                    all.add(chain.get(position).number);
                }
            }
            return i == -1 ? all.size() : i < all.size() ? all.get(i) : -1;
        }

        long told(int i, int what) {
            if (i == -1) {
                return told.size();
            }
            bound(i < -1 || i >= told.size() || what < 0 || what > 2);
            return told.get(i)[what];
        }

        long free(int i) {
            bound(i < -1);
            Set<Long> all = new LinkedHashSet<>();
            long next = kind(0) == 1 ? place(0, 0) : 0;
            while (next > 0 && next < 100 && kind((int) next) == 1 && all.add(next)) {
                next = place((int) next, 0);
            }
            return i == -1 ? all.size() : all.stream().skip(i).findFirst().orElse(-1L);
        }

        long trailer(int key) {
            refuse(key < 0 || key > 9);
            return chain.stream().filter(p -> p.values.containsKey(key)).map(p -> p.number).findFirst().orElse(-1);
        }

        long value(int section, int key) {
            Part p = part(section);
            refuse(key < 0 || key > 9);
            return p.values.getOrDefault(key, 0);
        }
    }

    private static int wrong = 0;
    private final Random random;
    private final CrossTables x = new CrossTables();
    private final Model model = new Model();
    private final StringBuilder history = new StringBuilder();
    private final long seed;
    private int calls = 0;
    private boolean isBroken = false;
    /** Of each kind of told thing, how often it was met: a test that meets none would show nothing. */
    private static final long[] met = new long[8];

    private ModelTest(long seed) {
        this.seed = seed;
        random = new Random(seed);
    }

    private void same(String what, Call got, Call want) {
        if (isBroken || calls == MOST_CALLS) {
            return;
        }
        calls++;
        String answer = answerOf(got);
        String due = answerOf(want);
        history.append(what).append(" = ").append(due).append('\n');
        if (!answer.equals(due)) {
            wrong++;
            isBroken = true;
            System.out.println("run " + seed + ": " + what + " answered " + answer + ", due is " + due + ", after");
            System.out.println(history);
        }
    }

    private int among(int... some) {
        return some[random.nextInt(some.length)];
    }

    private boolean oneIn(int n) {
        return random.nextInt(n) == 0;
    }

    private long anyPlace() {
        if (oneIn(40)) {
            long[] rare = {-2, -1, LAST_PLACE, LAST_PLACE + 1, Long.MIN_VALUE, Long.MAX_VALUE, 4294967296L};
            return rare[random.nextInt(rare.length)];
        }
        return random.nextInt(14);
    }

    private int anySection() {
        if (oneIn(60)) {
            return among(-1, 12, 11, Integer.MIN_VALUE, Integer.MAX_VALUE);
        }
        return random.nextInt(Math.max(1, model.parts.size()));
    }

    private int anyObject() {
        return oneIn(30) ? among(-1, 99, 100, Integer.MIN_VALUE, Integer.MAX_VALUE) : random.nextInt(12);
    }

    private void section() {
        int kind = oneIn(40) ? among(-1, 2) : random.nextInt(2);
        long place = anyPlace();
        long before = oneIn(8) ? -1 : anyPlace();
        same("section(" + kind + ", " + place + ", " + before + ")",
                () -> x.section(kind, place, before), () -> model.section(kind, place, before));
    }

    private void addAll(int section, String bytes) {
        for (byte b : bytes.getBytes(StandardCharsets.ISO_8859_1)) {
            same("add(" + section + ", " + b + ")", () -> x.add(section, b), () -> model.add(section, b));
        }
    }

    private String number() {
        if (oneIn(30)) {
            String[] rare = {"9999999999", "10000000000", "4294967297", "x", "1x", "100", "101", "99", "-1", "n", "0000000000",
                "1:", "1/"};
            return rare[random.nextInt(rare.length)];
        }
        return String.valueOf(random.nextInt(12));
    }

    private String blank() {
        return oneIn(12) ? "\0\t\n\f\r \013\240".charAt(random.nextInt(8)) + (oneIn(2) ? " " : "") : " ";
    }

    private String tableText() {
        StringBuilder text = new StringBuilder();
        for (int beginnings = random.nextInt(3); beginnings >= 0; beginnings--) {
            int due = random.nextInt(5);
            int given = oneIn(8) ? random.nextInt(6) : due;
            text.append(oneIn(20) ? number() : String.valueOf(random.nextInt(6)));
            text.append(blank()).append(oneIn(20) ? number() : String.valueOf(due)).append(blank());
            for (int i = 0; i < given; i++) {
                text.append(tableRow());
            }
        }
        return oneIn(10) ? text.substring(0, random.nextInt(text.length())) : text.toString();
    }

    private String tableRow() {
        String sign = oneIn(25) ? "nf" : oneIn(3) ? "n" : "f";
        if (oneIn(2)) {
            return String.format("%010d %05d %s \n", random.nextInt(12), random.nextInt(3), sign);
        }
        return number() + blank() + random.nextInt(3) + blank() + sign + blank();
    }

    private void fill() {
        int section = anySection();
        boolean isTable = section < 0 || section >= model.parts.size() || model.parts.get(section).isTable;
        if (isTable) {
            addAll(section, tableText());
            return;
        }
        StringBuilder bytes = new StringBuilder();
        for (int i = random.nextInt(24); i >= 0; i--) {
            bytes.append((char) (oneIn(20) ? among(255, 128, 127) : random.nextInt(4)));
        }
        addAll(section, bytes.toString());
    }

    private void change() {
        int s = anySection();
        switch (random.nextInt(6)) {
            case 0, 1:
                long place = anyPlace();
                same("beside(" + s + ", " + place + ")", () -> x.beside(s, place), () -> model.beside(s, place));
                break;
            case 2:
                int a = oneIn(30) ? among(-1, 5) : among(0, 1, 1, 1, 2, 4);
                int b = oneIn(30) ? among(-1, 5) : among(0, 1, 1, 2, 4);
                int c = oneIn(30) ? among(-1, 5) : among(0, 0, 1, 1, 4);
                same("widths(" + s + ", " + a + ", " + b + ", " + c + ")",
                        () -> x.widths(s, a, b, c), () -> model.widths(s, a, b, c));
                break;
            case 3, 4:
                int first = oneIn(20) ? among(-1, 97, 999, 1000) : random.nextInt(8);
                int many = oneIn(20) ? among(0, 100, 101, -1) : 1 + random.nextInt(4);
                same("run(" + s + ", " + first + ", " + many + ")", () -> x.run(s, first, many), () -> model.run(s, first, many));
                break;
            default:
                int key = random.nextInt(12) - 1;
                int value = random.nextInt(3);
                same("key(" + s + ", " + key + ", " + value + ")", () -> x.key(s, key, value), () -> model.key(s, key, value));
        }
    }

    private void head() {
        long place = anyPlace();
        int object = anyObject();
        int generation = oneIn(30) ? among(-1, 99999, 100000) : random.nextInt(3);
        same("head(" + place + ", " + object + ", " + generation + ")",
                () -> x.head(place, object, generation), () -> model.head(place, object, generation));
    }

    private void read() {
        long start = anyPlace();
        same("read(" + start + ")", () -> x.read(start), () -> model.read(start));
        model.told.forEach(t -> met[(int) t[0]]++);
    }

    /** Questions, any of them, until so many calls have been made. */
    private void askUntil(int most) {
        for (int i = 0; i < MOST_CALLS && calls < most; i++) {
            switch (random.nextInt(4)) {
                case 0 -> askOfTold();
                case 1 -> askOfSections();
                default -> askOfObjects();
            }
        }
    }

    private void askOfObjects() {
        int n = anyObject();
        int what = oneIn(20) ? among(-1, 2) : random.nextInt(2);
        int which = oneIn(20) ? among(-2, 11, 12, Integer.MAX_VALUE) : random.nextInt(5) - 1;
        int i = oneIn(20) ? among(-2, 99, 100, Integer.MAX_VALUE) : random.nextInt(6) - 1;
        same("kind(" + n + ")", () -> x.kind(n), () -> model.kind(n));
        same("place(" + n + ", " + what + ")", () -> x.place(n, what), () -> model.place(n, what));
        same("revision(" + n + ", " + which + ")", () -> x.revision(n, which), () -> model.revision(n, which));
        same("free(" + i + ")", () -> x.free(i), () -> model.free(i));
    }

    private void askOfTold() {
        int i = oneIn(20) ? among(-2, 200, model.told.size()) : random.nextInt(model.told.size() + 1) - 1;
        int what = oneIn(20) ? among(-1, 3) : random.nextInt(3);
        same("told(" + i + ", " + what + ")", () -> x.told(i, what), () -> model.told(i, what));
    }

    private void askOfSections() {
        int key = random.nextInt(12) - 1;
        int s = anySection();
        int at = oneIn(3) ? among(-1, 0, 299, 300) : random.nextInt(40);
        same("trailer(" + key + ")", () -> x.trailer(key), () -> model.trailer(key));
        same("value(" + s + ", " + key + ")", () -> x.value(s, key), () -> model.value(s, key));
        same("octet(" + s + ", " + at + ")", () -> x.octet(s, at), () -> model.octet(s, at));
    }

    private void makeUntil(int most) {
        for (int i = 0; i < MOST_CALLS && calls < most; i++) {
            int which = random.nextInt(20);
            if (which < 6) {
                section();
            } else if (which < 9) {
                fill();
            } else if (which < 14) {
                change();
            } else if (which < 19) {
                head();
            } else {
                read();
            }
        }
    }

    private void run() {
        int made = 20 + random.nextInt(300);
        askUntil(random.nextInt(8));
        makeUntil(made);
        read();
        askUntil(made + 60);
        makeUntil(made + 60 + random.nextInt(40));
        askUntil(made + 130);
        read();
        askUntil(MOST_CALLS);
    }

    public static void main(String[] args) {
        for (int seed = 1; seed <= RUNS && wrong < 3; seed++) {
            new ModelTest(seed).run();
        }
        for (int kind = 1; kind <= 7; kind++) {
            if (met[kind] == 0) {
                wrong++;
                System.out.println("nothing of kind " + kind + " was ever told");
            }
        }
        System.out.println("told, by kinds: " + Arrays.toString(met));
        System.out.println(wrong == 0 ? "both programs answer the same" : wrong + " runs differ");
        if (wrong != 0) {
            System.exit(1);
        }
    }
}
