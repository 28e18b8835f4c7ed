import java.util.NoSuchElementException;

/**
 * Cross tables of a file that was changed again and again. The document (../shared/DOC.md) numbers
 * what this class promises; the words in capitals in the comments are the document's terms.
 */
public final class CrossTables {
    private static final int MOST_SECTIONS = 12;
    private static final int MOST_BYTES = 300;
    private static final int MOST_RUNS = 6;
    private static final int MOST_HEADS = 60;
    private static final int MOST_TOLD = 200;
    private static final int MOST_DUE = 100;
    private static final int MOST_DIGITS = 10;
    private static final int MOST_WIDTH = 4;
    private static final int OBJECTS = 100;
    private static final int KEYS = 10;
    private static final int LAST_FIRST = 999;
    private static final int LAST_GENERATION = 99999;
    private static final long LAST_PLACE = 9999999999L;
    private static final int NONE = -1;

    private static final int TABLE = 0;
    private static final int STREAM = 1;

    private static final int NOTHING = 0;
    private static final int FREE = 1;
    private static final int USED = 2;
    private static final int WITHIN = 3;
    private static final int WRONG = 4;

    private static final int TOLD_RING = 1;
    private static final int TOLD_NOWHERE = 2;
    private static final int TOLD_ODD = 3;
    private static final int TOLD_BROKEN = 4;
    private static final int TOLD_PAST = 5;
    private static final int TOLD_FREE_WITH_HEAD = 6;
    private static final int TOLD_WRONG = 7;

    private static final int ROW_BYTES = 20;
    private static final int SIGN_N = 110;
    private static final int SIGN_F = 102;
    private static final int DIGIT_0 = 48;
    private static final int DIGIT_9 = 57;

    private final Section[] sections;
    private int sectionCount;
    private final Heads heads;
    private final Reading reading;
    private final RowReader rows;

    public CrossTables() {
        sections = new Section[MOST_SECTIONS];
        sectionCount = 0;
        heads = new Heads();
        reading = new Reading();
        rows = new RowReader(reading);
    }

    public int section(int kind, long place, long before)
            throws IllegalArgumentException, UnsupportedOperationException {
        if (kind != TABLE && kind != STREAM) {
            throw new IllegalArgumentException("kind is not 0, 1");
        }
        if (!isPlace(place) || sectionAt(place) != null) {
            throw new IllegalArgumentException("place is out of range, or another section's");
        }
        if (!isPlaceOrNone(before)) {
            throw new IllegalArgumentException("before is out of range");
        }
        if (sectionCount >= MOST_SECTIONS) {
            throw new UnsupportedOperationException("there are 12 sections");
        }
        int number = sectionCount;
        sections[number] = new Section(number, kind, place, before);
        sectionCount = number + 1;
        return number;
    }

    public int add(int section, byte b) throws NoSuchElementException, UnsupportedOperationException {
        Section s = existing(section);
        if (s.size >= MOST_BYTES) {
            throw new UnsupportedOperationException("the section has 300 bytes");
        }
        s.bytes[s.size] = b;
        s.size++;
        return s.size;
    }

    public byte octet(int section, int i) throws NoSuchElementException, ArrayIndexOutOfBoundsException {
        Section s = existing(section);
        if (i < 0 || i >= s.size) {
            // Rule 6 of LANGUAGE.md lists no such exception, but a call must throw just what the document names.
            throw new ArrayIndexOutOfBoundsException("the section has no such byte");
        }
        return s.bytes[i];
    }

    public long beside(int section, long place) throws NoSuchElementException, IllegalArgumentException {
        Section s = existing(section);
        if (s.kind != TABLE) {
            throw new IllegalArgumentException("the section is a stream");
        }
        if (!isPlaceOrNone(place)) {
            throw new IllegalArgumentException("place is out of range");
        }
        long old = s.beside;
        s.beside = place;
        return old;
    }

    public int widths(int section, int a, int b, int c) throws NoSuchElementException, IllegalArgumentException {
        Section s = existing(section);
        if (s.kind != STREAM) {
            throw new IllegalArgumentException("the section is a table");
        }
        if (!isWidth(a) || !isWidth(b) || !isWidth(c)) {
            throw new IllegalArgumentException("a width is not 0 .. 4");
        }
        s.widthA = a;
        s.widthB = b;
        s.widthC = c;
        return s.rowWidth();
    }

    public int run(int section, int first, int many)
            throws NoSuchElementException, IllegalArgumentException, UnsupportedOperationException {
        Section s = existing(section);
        if (s.kind != STREAM) {
            throw new IllegalArgumentException("the section is a table");
        }
        if (first < 0 || first > LAST_FIRST) {
            throw new IllegalArgumentException("first is not 0 .. 999");
        }
        if (many < 1 || many > MOST_DUE) {
            throw new IllegalArgumentException("many is not 1 .. 100");
        }
        if (s.runs >= MOST_RUNS) {
            throw new UnsupportedOperationException("the stream has 6 runs");
        }
        s.runFirst[s.runs] = first;
        s.runMany[s.runs] = many;
        s.runs++;
        return s.runs;
    }

    public int key(int section, int key, int value) throws NoSuchElementException, IllegalArgumentException {
        Section s = existing(section);
        if (!isKey(key)) {
            throw new IllegalArgumentException("key is not 0 .. 9");
        }
        int had = s.hasValue[key] ? 1 : 0;
        s.hasValue[key] = true;
        s.values[key] = value;
        return had;
    }

    public int head(long place, int object, int generation)
            throws IllegalArgumentException, UnsupportedOperationException {
        if (!isPlace(place)) {
            throw new IllegalArgumentException("place is out of range");
        }
        if (!isObject(object)) {
            throw new IllegalArgumentException("object is not 0 .. 99");
        }
        if (generation < 0 || generation > LAST_GENERATION) {
            throw new IllegalArgumentException("generation is not 0 .. 99999");
        }
        if (!heads.hasRoomFor(place)) {
            throw new UnsupportedOperationException("there are 60 heads");
        }
        heads.put(place, object, generation);
        return heads.count;
    }

    public int read(long start) {
        reading.clear();
        Section next = sectionAt(start);
        if (next == null) {
            return NONE;
        }
        for (int step = 0; step < MOST_SECTIONS && next != null; step++) {
            next = goThrough(next);
        }
        judgeObjects();
        reading.listFree();
        return reading.countObjects();
    }

    public int kind(int object) throws IndexOutOfBoundsException {
        if (!isObject(object)) {
            throw new IndexOutOfBoundsException("object is not 0 .. 99");
        }
        return reading.kinds[object];
    }

    public long place(int object, int what) throws IndexOutOfBoundsException {
        if (!isObject(object)) {
            throw new IndexOutOfBoundsException("object is not 0 .. 99");
        }
        if (what != 0 && what != 1) {
            throw new IndexOutOfBoundsException("what is not 0, 1");
        }
        if (reading.kinds[object] == NOTHING) {
            return NONE;
        }
        return what == 0 ? reading.places[object] : reading.generations[object];
    }

    public int revision(int object, int i) throws IndexOutOfBoundsException {
        if (!isObject(object)) {
            throw new IndexOutOfBoundsException("object is not 0 .. 99");
        }
        if (i < -1) {
            throw new IndexOutOfBoundsException("i is below -1");
        }
        return i == -1 ? reading.countTellers(object) : reading.tellerOf(object, i);
    }

    public long told(int i, int what) throws IndexOutOfBoundsException {
        if (i == -1) {
            return reading.toldCount;
        }
        if (i < -1 || i >= reading.toldCount) {
            throw new IndexOutOfBoundsException("so many were not told");
        }
        switch (what) {
            case 0:
                return reading.toldKinds[i];
            case 1:
                return reading.toldOwners[i];
            case 2:
                return reading.toldNumbers[i];
            default:
                throw new IndexOutOfBoundsException("what is not 0 .. 2");
        }
    }

    public int free(int i) throws IndexOutOfBoundsException {
        if (i < -1) {
            throw new IndexOutOfBoundsException("i is below -1");
        }
        if (i == -1) {
            return reading.freeCount;
        }
        return i < reading.freeCount ? reading.frees[i] : NONE;
    }

    public int trailer(int key) throws IllegalArgumentException {
        if (!isKey(key)) {
            throw new IllegalArgumentException("key is not 0 .. 9");
        }
        return reading.firstWithKey(key);
    }

    public int value(int section, int key) throws NoSuchElementException, IllegalArgumentException {
        Section s = existing(section);
        if (!isKey(key)) {
            throw new IllegalArgumentException("key is not 0 .. 9");
        }
        return s.values[key];
    }

    private static boolean isPlace(long place) {
        return place >= 0 && place <= LAST_PLACE;
    }

    private static boolean isPlaceOrNone(long place) {
        return place == NONE || isPlace(place);
    }

    private static boolean isWidth(int width) {
        return width >= 0 && width <= MOST_WIDTH;
    }

    private static boolean isKey(int key) {
        return key >= 0 && key < KEYS;
    }

    private static boolean isObject(long object) {
        return object >= 0 && object < OBJECTS;
    }

    private Section existing(int number) {
        Section s = number >= 0 && number < sectionCount ? sections[number] : null;
        if (s == null) {
            throw new NoSuchElementException("there is no such section");
        }
        return s;
    }

    /** Null when no section is there, as at NONE. */
    private Section sectionAt(long place) {
        for (int i = 0; i < sectionCount; i++) {
            Section s = sections[i];
            if (s != null && s.place == place) {
                return s;
            }
        }
        return null;
    }

    /** Answers the section to go on with, or null where THE CHAIN ends. */
    private Section goThrough(Section here) {
        reading.enter(here);
        Section beside = besideToGoTo(here);
        rows.readRowsOf(here);
        if (beside != null) {
            reading.enter(beside);
            rows.readRowsOf(beside);
        }
        return beforeToGoTo(here);
    }

    private Section besideToGoTo(Section here) {
        Section found = sectionAt(here.beside);
        // A table there is NOWHERE even when THE CHAIN has it already: only a stream can be a RING.
        Section stream = found != null && found.kind == STREAM ? found : null;
        return goOrTell(here, here.beside, stream);
    }

    private Section beforeToGoTo(Section here) {
        return goOrTell(here, here.before, sectionAt(here.before));
    }

    private Section goOrTell(Section here, long place, Section target) {
        if (place == NONE) {
            return null;
        }
        if (target == null) {
            reading.tell(TOLD_NOWHERE, here.number, place);
            return null;
        }
        if (reading.holds(target)) {
            reading.tell(TOLD_RING, here.number, place);
            return null;
        }
        return target;
    }

    private void judgeObjects() {
        for (int object = 0; object < OBJECTS; object++) {
            if (reading.kinds[object] == FREE) {
                judgeFree(object);
            } else if (reading.kinds[object] == USED) {
                judgeUsed(object);
            }
        }
    }

    private void judgeFree(int object) {
        // Object 0 is free by its nature: it begins the list of free ones.
        long least = object == 0 ? NONE : heads.leastPlaceOf(object);
        if (least != NONE) {
            reading.tell(TOLD_FREE_WITH_HEAD, object, least);
        }
    }

    private void judgeUsed(int object) {
        long place = reading.places[object];
        if (!heads.standsAt(place, object, reading.generations[object])) {
            reading.kinds[object] = WRONG;
            reading.tell(TOLD_WRONG, object, place);
        }
    }

    private static final class Section {
        final int number;
        final int kind;
        final long place;
        final long before;
        long beside;
        final byte[] bytes;
        int size;
        int widthA;
        int widthB;
        int widthC;
        final int[] runFirst;
        final int[] runMany;
        int runs;
        final int[] values;
        final boolean[] hasValue;

        Section(int number, int kind, long place, long before) {
            this.number = number;
            this.kind = kind;
            this.place = place;
            this.before = before;
            beside = NONE;
            bytes = new byte[MOST_BYTES];
            size = 0;
            widthA = 1;
            widthB = 2;
            widthC = 1;
            runFirst = new int[MOST_RUNS];
            runMany = new int[MOST_RUNS];
            runs = 0;
            values = new int[KEYS];
            hasValue = new boolean[KEYS];
        }

        int rowWidth() {
            return widthA + widthB + widthC;
        }

        /** The number in so many bytes, the highest first; the one given when it has none. */
        long numberIn(int from, int width, long without) {
            if (width == 0) {
                return without;
            }
            long number = 0;
            for (int i = from; i >= 0 && i < from + width && i < size; i++) {
                number = number * 256 + (bytes[i] & 255);
            }
            return number;
        }
    }

    private static final class Heads {
        final long[] places;
        final int[] objects;
        final int[] generations;
        int count;

        Heads() {
            places = new long[MOST_HEADS];
            objects = new int[MOST_HEADS];
            generations = new int[MOST_HEADS];
            count = 0;
        }

        /** The index of the head at a place; the count when there is none. */
        int indexAt(long place) {
            for (int i = 0; i < count; i++) {
                if (places[i] == place) {
                    return i;
                }
            }
            return count;
        }

        boolean hasRoomFor(long place) {
            return indexAt(place) < MOST_HEADS;
        }

        void put(long place, int object, int generation) {
            int i = indexAt(place);
            if (i >= MOST_HEADS) {
                return;
            }
            places[i] = place;
            objects[i] = object;
            generations[i] = generation;
            if (i == count) {
                count++;
            }
        }

        boolean standsAt(long place, int object, long generation) {
            int i = indexAt(place);
            return i < count && objects[i] == object && generations[i] == generation;
        }

        long leastPlaceOf(int object) {
            long least = NONE;
            for (int i = 0; i < count; i++) {
                if (objects[i] == object && (least == NONE || places[i] < least)) {
                    least = places[i];
                }
            }
            return least;
        }
    }

    /** What the latest reading found; made once, and cleared for the next reading. */
    private static final class Reading {
        final Section[] chain;
        int length;
        final int[] kinds;
        final long[] places;
        final long[] generations;
        /** Of each object a bit for each section of THE CHAIN, by its position there, that tells of it. */
        final int[] tellers;
        final int[] toldKinds;
        final int[] toldOwners;
        final long[] toldNumbers;
        int toldCount;
        final int[] frees;
        final boolean[] isListed;
        int freeCount;

        Reading() {
            chain = new Section[MOST_SECTIONS];
            length = 0;
            kinds = new int[OBJECTS];
            places = new long[OBJECTS];
            generations = new long[OBJECTS];
            tellers = new int[OBJECTS];
            toldKinds = new int[MOST_TOLD];
            toldOwners = new int[MOST_TOLD];
            toldNumbers = new long[MOST_TOLD];
            toldCount = 0;
            frees = new int[OBJECTS];
            isListed = new boolean[OBJECTS];
            freeCount = 0;
        }

        void clear() {
            length = 0;
            toldCount = 0;
            freeCount = 0;
            for (int object = 0; object < OBJECTS; object++) {
                kinds[object] = NOTHING;
                tellers[object] = 0;
                isListed[object] = false;
            }
        }

        void enter(Section s) {
            if (length < MOST_SECTIONS) {
                chain[length] = s;
                length++;
            }
        }

        boolean holds(Section s) {
            for (int i = 0; i < length; i++) {
                if (chain[i] == s) {
                    return true;
                }
            }
            return false;
        }

        void tell(int what, int owner, long number) {
            if (toldCount < MOST_TOLD) {
                toldKinds[toldCount] = what;
                toldOwners[toldCount] = owner;
                toldNumbers[toldCount] = number;
                toldCount++;
            }
        }

        /** A ROW of the section that was entered last. */
        void takeRow(long object, int what, long first, long second) {
            if (what == NOTHING || !isObject(object)) {
                return;
            }
            int o = (int) object;
            tellers[o] |= 1 << (length - 1);
            if (kinds[o] == NOTHING) {
                kinds[o] = what;
                places[o] = first;
                generations[o] = second;
            }
        }

        void listFree() {
            long next = kinds[0] == FREE ? places[0] : 0;
            for (int i = 0; i < OBJECTS && goesOnWith(next); i++) {
                int object = (int) next;
                isListed[object] = true;
                frees[i] = object;
                freeCount = i + 1;
                next = places[object];
            }
        }

        private boolean goesOnWith(long next) {
            if (next == 0 || !isObject(next)) {
                return false;
            }
            return kinds[(int) next] == FREE && !isListed[(int) next];
        }

        int countObjects() {
            int count = 0;
            for (int object = 0; object < OBJECTS; object++) {
                if (kinds[object] != NOTHING) {
                    count++;
                }
            }
            return count;
        }

        int countTellers(int object) {
            return isObject(object) ? Integer.bitCount(tellers[object]) : 0;
        }

        int tellerOf(int object, int which) {
            if (!isObject(object)) {
                return NONE;
            }
            int passed = 0;
            for (int position = 0; position < length; position++) {
                Section s = chain[position];
                if (s != null && (tellers[object] >> position & 1) == 1) {
                    if (passed == which) {
                        return s.number;
                    }
                    passed++;
                }
            }
            return NONE;
        }

        int firstWithKey(int key) {
            for (int position = 0; position < length; position++) {
                Section s = chain[position];
                if (s != null && isKey(key) && s.hasValue[key]) {
                    return s.number;
                }
            }
            return NONE;
        }
    }

    /** Goes from TOKEN to TOKEN; at the end it stands on an empty one that begins behind the last byte. */
    private static final class Tokens {
        private Section table;
        int begin;
        private int end;

        void open(Section s) {
            table = s;
            end = 0;
            step();
        }

        void step() {
            int size = table == null ? 0 : table.size;
            begin = end;
            while (begin < size && isBlank(byteAt(begin))) {
                begin++;
            }
            end = begin;
            while (end < size && !isBlank(byteAt(end))) {
                end++;
            }
        }

        boolean atEnd() {
            return begin == end;
        }

        boolean isNumber() {
            if (atEnd() || end - begin > MOST_DIGITS) {
                return false;
            }
            for (int i = begin; i < end; i++) {
                if (byteAt(i) < DIGIT_0 || byteAt(i) > DIGIT_9) {
                    return false;
                }
            }
            return true;
        }

        long number() {
            long number = 0;
            for (int i = begin; i < end; i++) {
                number = number * 10 + (byteAt(i) - DIGIT_0);
            }
            return number;
        }

        boolean isOnly(int sign) {
            return end - begin == 1 && byteAt(begin) == sign;
        }

        private byte byteAt(int i) {
            return table != null && i >= 0 && i < table.size ? table.bytes[i] : 0;
        }

        private static boolean isBlank(byte b) {
            return b == 0 || b == 9 || b == 10 || b == 12 || b == 13 || b == 32;
        }
    }

    /** Reads the ROWS of one section after the other into a reading. */
    private static final class RowReader {
        private final Reading reading;
        private final Tokens tokens;
        private int owner;
        private long turn;
        private long due;
        private int pairBegin;
        private long pairFirst;
        private long pairSecond;
        private int pairKind;

        RowReader(Reading reading) {
            this.reading = reading;
            tokens = new Tokens();
        }

        void readRowsOf(Section s) {
            owner = s.number;
            if (s.kind == TABLE) {
                readTable(s);
            } else {
                readStream(s);
            }
        }

        private void readTable(Section table) {
            turn = 0;
            due = 0;
            tokens.open(table);
            boolean isSound = true;
            for (int i = 0; i < MOST_BYTES && isSound && isMoreToRead(); i++) {
                isSound = scanPair() && (pairKind == NOTHING ? takeBeginning() : takeTableRow());
            }
        }

        private boolean isMoreToRead() {
            return due > 0 || !tokens.atEnd();
        }

        /** Two NUMBERS; what stands behind them decides what they are. False when something is wrong. */
        private boolean scanPair() {
            pairBegin = tokens.begin;
            if (!tokens.isNumber()) {
                return refuse(tokens.begin);
            }
            pairFirst = tokens.number();
            tokens.step();
            if (!tokens.isNumber()) {
                return refuse(tokens.begin);
            }
            pairSecond = tokens.number();
            tokens.step();
            pairKind = kindBySign();
            return true;
        }

        private int kindBySign() {
            if (tokens.isOnly(SIGN_N)) {
                return USED;
            }
            return tokens.isOnly(SIGN_F) ? FREE : NOTHING;
        }

        private boolean takeBeginning() {
            if (due > 0 || pairSecond > MOST_DUE) {
                return refuse(pairBegin);
            }
            turn = pairFirst;
            due = pairSecond;
            return true;
        }

        private boolean takeTableRow() {
            if (due == 0) {
                return refuse(pairBegin);
            }
            tokens.step();
            if (tokens.begin != pairBegin + ROW_BYTES) {
                reading.tell(TOLD_ODD, owner, pairBegin);
            }
            reading.takeRow(turn, pairKind, pairFirst, pairSecond);
            turn++;
            due--;
            return true;
        }

        private boolean refuse(int where) {
            reading.tell(TOLD_BROKEN, owner, where);
            return false;
        }

        private void readStream(Section stream) {
            int width = stream.rowWidth();
            int rowsRead = 0;
            for (int r = 0; r < stream.runs && r < MOST_RUNS; r++) {
                int object = stream.runFirst[r];
                for (int i = 0; i < stream.runMany[r]; i++) {
                    int from = rowsRead * width;
                    if (from + width > stream.size) {
                        reading.tell(TOLD_PAST, owner, rowsRead);
                        return;
                    }
                    takeStreamRow(stream, from, object + i);
                    rowsRead++;
                }
            }
        }

        private void takeStreamRow(Section stream, int from, int object) {
            int fromB = from + stream.widthA;
            int fromC = fromB + stream.widthB;
            int what = kindByNumber(stream.numberIn(from, stream.widthA, 1));
            long second = stream.numberIn(fromB, stream.widthB, 0);
            long third = stream.numberIn(fromC, stream.widthC, 0);
            reading.takeRow(object, what, second, third);
        }

        private static int kindByNumber(long number) {
            if (number == 0) {
                return FREE;
            }
            if (number == 1) {
                return USED;
            }
            return number == 2 ? WITHIN : NOTHING;
        }
    }
}
