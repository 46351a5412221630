import java.util.NoSuchElementException;

/** Keeps pieces of things, answers texts that ask for parts of one, and plans the cheapest fetches. */
public final class PieceShelf {
    public static final int NONE = -1;

    private static final int THINGS = 6;
    private static final int MAX_LENGTH = 4095;
    private static final int MAX_ROOM = 20000;
    private static final int FIRST_ROOM = 8000;
    private static final int MAX_COST = 1000;
    private static final int FIRST_COST = 100;

    private static final int WHOLE = 0;
    private static final int PARTIAL = 1;
    private static final int REFUSED = 2;

    private final Tape tape;
    private final Thing[] things;
    private final Reply reply;
    private int room;
    private int cost;
    private long uses;

    public PieceShelf() {
        tape = new Tape();
        things = new Thing[THINGS];
        for (int t = 0; t < THINGS; t++) {
            things[t] = new Thing();
        }
        reply = new Reply();
        room = FIRST_ROOM;
        cost = FIRST_COST;
        uses = 0L;
    }

    public boolean type(long word, int n) {
        return tape.append(word, n);
    }

    public boolean thing(int t, int length, int tag) {
        Thing thing = find(t);
        if (thing == null || length < 0 || length > MAX_LENGTH) {
            return false;
        }
        thing.describe(length, tag);
        return true;
    }

    public boolean forget(int t) {
        Thing thing = find(t);
        if (thing == null) {
            return false;
        }
        thing.lose();
        return true;
    }

    public int got(int t, int a, int b, int tag) {
        Thing thing = find(t);
        if (thing == null || !thing.accepts(a, b, tag)) {
            return NONE;
        }
        int fresh = thing.kept.add(a, b);
        // The use is noted first, so that the room is made from the other things.
        noteUse(thing);
        makeRoom();
        return fresh;
    }

    public int answer(int t) throws IllegalArgumentException {
        int parts = tape.readParts();
        tape.clear();
        Thing thing = find(t);
        if (thing == null || thing.length == NONE) {
            throw new IllegalArgumentException("no such thing, or its length is not known");
        }
        reply.begin(t);
        int kind = fill(thing, parts);
        if (kind != REFUSED) {
            noteUse(thing);
        }
        reply.finish(thing.kept, cost);
        return kind;
    }

    public int told(int what) {
        return reply.number(what);
    }

    public int row(int i, boolean end) throws NoSuchElementException {
        if (i < 0 || i >= reply.rows) {
            throw new NoSuchElementException("no such row");
        }
        return end ? reply.lasts[i] : reply.firsts[i];
    }

    public int fetch(int i, boolean end) throws NoSuchElementException {
        if (i < 0 || i >= reply.fetches) {
            throw new NoSuchElementException("no such fetch");
        }
        return end ? reply.fetchLasts.nth(i) : reply.fetchFirsts.nth(i);
    }

    public boolean set(int what, int v) {
        if (what == 0 && v >= 0 && v <= MAX_ROOM) {
            room = v;
            makeRoom();
            return true;
        }
        if (what == 1 && v >= 0 && v <= MAX_COST) {
            cost = v;
            return true;
        }
        return false;
    }

    public int about(int t, int what) {
        Thing thing = find(t);
        if (thing == null) {
            return NONE;
        }
        switch (what) {
            case 0:
                return thing.length;
            case 1:
                return thing.kept.size();
            case 2:
                return thing.kept.spans();
            case 3:
                return thing.firstMissing();
            default:
                return NONE;
        }
    }

    public boolean held(int t, int place) {
        Thing thing = find(t);
        return thing != null && thing.kept.has(place);
    }

    private Thing find(int t) {
        return t < 0 || t >= THINGS ? null : things[t];
    }

    private int fill(Thing thing, int parts) {
        if (parts == 0) {
            reply.addRow(0, thing.length - 1);
            return WHOLE;
        }
        for (int k = 0; k < parts; k++) {
            reply.addRow(tape.firstPlace(k, thing.length), tape.lastPlace(k, thing.length));
        }
        return reply.rows == 0 ? REFUSED : PARTIAL;
    }

    private void noteUse(Thing thing) {
        uses++;
        thing.used = uses;
    }

    private void makeRoom() {
        int over = keptInAll() - room;
        // Each round ends the excess or empties a thing, so a round for each thing is enough.
        for (int k = 0; k < THINGS && over > 0; k++) {
            Thing oldest = longestUnused();
            if (oldest != null) {
                over -= oldest.kept.dropLast(over);
            }
        }
    }

    private int keptInAll() {
        int sum = 0;
        for (int t = 0; t < THINGS; t++) {
            sum += things[t].kept.size();
        }
        return sum;
    }

    private Thing longestUnused() {
        Thing oldest = null;
        for (int t = 0; t < THINGS; t++) {
            Thing thing = things[t];
            if (!thing.kept.isEmpty() && (oldest == null || thing.used < oldest.used)) {
                oldest = thing;
            }
        }
        return oldest;
    }

    private static final class Thing {
        final Places kept;
        int length;
        int tag;
        /** 0 stands for never, and so comes before every use. */
        long used;

        Thing() {
            kept = new Places();
            length = NONE;
            tag = 0;
            used = 0L;
        }

        void describe(int newLength, int newTag) {
            if (newLength != length || newTag != tag) {
                kept.clear();
            }
            length = newLength;
            tag = newTag;
        }

        void lose() {
            length = NONE;
            kept.clear();
        }

        /** An unknown length is NONE, and no b from 0 on is below that. */
        boolean accepts(int a, int b, int itsTag) {
            return itsTag == tag && a >= 0 && a <= b && b < length;
        }

        int firstMissing() {
            int place = kept.next(0, false);
            return place < length ? place : NONE;
        }
    }

    /** A set of places, a bit for each, so that a shelf stays small however torn its pieces are. */
    private static final class Places {
        static final int LIMIT = 4096;
        private static final int WORDS = 64;

        private final long[] words;

        Places() {
            words = new long[WORDS];
        }

        void clear() {
            for (int w = 0; w < WORDS; w++) {
                words[w] = 0L;
            }
        }

        boolean has(int place) {
            return place >= 0 && place < LIMIT && (words[place >> 6] >>> (place & 63) & 1L) != 0L;
        }

        /** Answers how many of first .. last were not in the set before. */
        int add(int first, int last) {
            if (first < 0 || last >= LIMIT) {
                return 0;
            }
            int fresh = 0;
            for (int w = first >> 6; w <= last >> 6; w++) {
                int low = Math.max(first - (w << 6), 0);
                int high = Math.min(last - (w << 6), 63);
                long mask = (-1L << low) & (-1L >>> (63 - high));
                fresh += Long.bitCount(mask & ~words[w]);
                words[w] |= mask;
            }
            return fresh;
        }

        void removeAll(Places others) {
            for (int w = 0; w < WORDS; w++) {
                words[w] &= ~others.words[w];
            }
        }

        /** Answers how many went: n, or all if there are fewer. */
        int dropLast(int n) {
            int left = n;
            for (int w = WORDS - 1; w >= 0; w--) {
                for (int bit = 63; bit >= 0 && left > 0 && words[w] != 0L; bit--) {
                    if ((words[w] >>> bit & 1L) != 0L) {
                        words[w] &= ~(1L << bit);
                        left--;
                    }
                }
            }
            return n - left;
        }

        int size() {
            int sum = 0;
            for (int w = 0; w < WORDS; w++) {
                sum += Long.bitCount(words[w]);
            }
            return sum;
        }

        boolean isEmpty() {
            return next(0, true) == LIMIT;
        }

        int spans() {
            int place = next(0, true);
            int count = 0;
            while (count < LIMIT && place < LIMIT) {
                place = next(next(place, false), true);
                count++;
            }
            return count;
        }

        /** The first place from there on that is in the set (or is not); LIMIT if there is none. */
        int next(int from, boolean in) {
            if (from < 0) {
                return LIMIT;
            }
            long mask = -1L << (from & 63);
            for (int w = from >> 6; w < WORDS; w++) {
                long bits = (in ? words[w] : ~words[w]) & mask;
                if (bits != 0L) {
                    return (w << 6) + lowest(bits);
                }
                mask = -1L;
            }
            return LIMIT;
        }

        /** The place of the set that has n others below it; LIMIT if there is none. */
        int nth(int n) {
            int left = n;
            for (int w = 0; w < WORDS; w++) {
                long bits = words[w];
                int count = Long.bitCount(bits);
                if (left < count) {
                    for (int k = 0; k < left; k++) {
                        bits &= bits - 1L;
                    }
                    return (w << 6) + lowest(bits);
                }
                left -= count;
            }
            return LIMIT;
        }

        private static int lowest(long bits) {
            return Long.bitCount((bits & -bits) - 1L);
        }
    }

    /** What was typed, and the parts that were read from it, which outlive its emptying. */
    private static final class Tape {
        static final int MAX_PARTS = 6;
        private static final int MAX_SIGNS = 60;
        private static final int MAX_DIGITS = 5;
        private static final int WORD_BYTES = 8;
        private static final int LEAST_SIGN = 33;
        private static final int GREATEST_SIGN = 126;
        private static final String HEAD = "bytes=";

        private final int[] signs;
        private int size;
        /** The number before a part's dash and the one behind it; NONE where there is none. */
        private final int[] before;
        private final int[] behind;

        Tape() {
            signs = new int[MAX_SIGNS];
            size = 0;
            before = new int[MAX_PARTS];
            behind = new int[MAX_PARTS];
        }

        void clear() {
            size = 0;
        }

        boolean append(long word, int n) {
            if (n < 1 || n > WORD_BYTES || size + n > MAX_SIGNS) {
                return false;
            }
            for (int k = 0; k < n; k++) {
                int sign = byteOf(word, k);
                if (sign < LEAST_SIGN || sign > GREATEST_SIGN) {
                    return false;
                }
            }
            for (int k = n - 1; k >= 0; k--) {
                signs[size] = byteOf(word, k);
                size++;
            }
            return true;
        }

        /** Answers how many parts the text has; 0 if the tape is no text. */
        int readParts() {
            if (!hasHead()) {
                return 0;
            }
            int at = HEAD.length();
            for (int k = 0; k < MAX_PARTS; k++) {
                at = readPart(k, at);
                if (at == NONE) {
                    return 0;
                }
                if (at == size) {
                    return k + 1;
                }
                if (signAt(at) != ',') {
                    return 0;
                }
                at++;
            }
            return 0;
        }

        int firstPlace(int part, int length) {
            if (part < 0 || part >= MAX_PARTS) {
                return length;
            }
            return before[part] == NONE ? Math.max(length - behind[part], 0) : before[part];
        }

        int lastPlace(int part, int length) {
            if (part < 0 || part >= MAX_PARTS) {
                return length - 1;
            }
            boolean toTheEnd = before[part] == NONE || behind[part] == NONE;
            return toTheEnd ? length - 1 : Math.min(behind[part], length - 1);
        }

        private static int byteOf(long word, int k) {
            return (int) (word >>> (8 * k) & 255L);
        }

        private int signAt(int at) {
            return at < 0 || at >= size ? NONE : signs[at];
        }

        private boolean hasHead() {
            for (int k = 0; k < HEAD.length(); k++) {
                if (signAt(k) != HEAD.charAt(k)) {
                    return false;
                }
            }
            return true;
        }

        /** Answers where the part ends, or NONE if there is no part. */
        private int readPart(int part, int at) {
            int dash = endOfDigits(at);
            if (signAt(dash) != '-' || part < 0 || part >= MAX_PARTS) {
                return NONE;
            }
            int end = endOfDigits(dash + 1);
            int low = numberIn(at, dash);
            int high = numberIn(dash + 1, end);
            boolean bothMissing = low == NONE && high == NONE;
            boolean falling = high != NONE && low > high;
            if (bothMissing || falling) {
                return NONE;
            }
            before[part] = low;
            behind[part] = high;
            return end;
        }

        /** Stops before a sixth digit, which then stands where no digit may be. */
        private int endOfDigits(int at) {
            int end = at;
            while (end < at + MAX_DIGITS && signAt(end) >= '0' && signAt(end) <= '9') {
                end++;
            }
            return end;
        }

        private int numberIn(int at, int end) {
            if (at == end) {
                return NONE;
            }
            int number = 0;
            for (int k = at; k < end; k++) {
                number = number * 10 + signAt(k) - '0';
            }
            return number;
        }
    }

    /** The latest answer and its plan, as they were then: later changes of the shelf leave them alone. */
    private static final class Reply {
        private static final int MAX_ROWS_AS_TOLD = 3;

        private int thing;
        int rows;
        final int[] firsts;
        final int[] lasts;
        private boolean overlap;
        private int places;
        private int kept;
        int fetches;
        private int price;
        /** The places that were asked for, and once the reply is finished those that are missing. */
        private final Places wanted;
        final Places fetchFirsts;
        final Places fetchLasts;

        Reply() {
            thing = NONE;
            firsts = new int[Tape.MAX_PARTS];
            lasts = new int[Tape.MAX_PARTS];
            wanted = new Places();
            fetchFirsts = new Places();
            fetchLasts = new Places();
        }

        void begin(int t) {
            thing = t;
            rows = 0;
            overlap = false;
            fetches = 0;
            price = 0;
            wanted.clear();
            fetchFirsts.clear();
            fetchLasts.clear();
        }

        /** Leaves out a row without places. */
        void addRow(int first, int last) {
            if (first > last || rows >= Tape.MAX_PARTS) {
                return;
            }
            firsts[rows] = first;
            lasts[rows] = last;
            rows++;
            int fresh = wanted.add(first, last);
            if (fresh < last - first + 1) {
                overlap = true;
            }
        }

        void finish(Places keptNow, int cost) {
            if (overlap || rows > MAX_ROWS_AS_TOLD) {
                joinRows();
            }
            places = wanted.size();
            wanted.removeAll(keptNow);
            kept = places - wanted.size();
            plan(cost);
        }

        int number(int what) {
            if (thing == NONE) {
                return NONE;
            }
            switch (what) {
                case 0:
                    return rows;
                case 1:
                    return places;
                case 2:
                    return kept;
                case 3:
                    return fetches;
                case 4:
                    return price;
                case 5:
                    return thing;
                default:
                    return NONE;
            }
        }

        private void joinRows() {
            rows = 0;
            int first = wanted.next(0, true);
            while (rows < Tape.MAX_PARTS && first < Places.LIMIT) {
                int behind = wanted.next(first, false);
                firsts[rows] = first;
                lasts[rows] = behind - 1;
                rows++;
                first = wanted.next(behind, true);
            }
        }

        private void plan(int cost) {
            int first = wanted.next(0, true);
            while (fetches < Places.LIMIT && first < Places.LIMIT) {
                int last = lastOfFetch(first, cost);
                fetchFirsts.add(first, first);
                fetchLasts.add(last, last);
                fetches++;
                price += cost + last - first + 1;
                first = wanted.next(last + 1, true);
            }
        }

        /** A gap is fetched too while it costs no more than a new fetch: if the same, fewer rows win. */
        private int lastOfFetch(int first, int cost) {
            int last = first;
            for (int k = 0; k < Places.LIMIT; k++) {
                int next = wanted.next(last + 1, true);
                if (next == Places.LIMIT || next - last - 1 > cost) {
                    return last;
                }
                last = wanted.next(next, false) - 1;
            }
            return last;
        }
    }
}
