/**
 * A heap of words in two halves, of which one is in use, collected by copying as Cheney does.
 *
 * A VALUE is one int: twice a NUMBER, or twice a place and one for a REFERENCE. That is why
 * numbers have 31 bits, and why doubling one wraps it as the document asks.
 */
public final class CopyHeap {
    public static final int NONE = -1;

    private static final int REGISTERS = 8;
    private static final int MOST_FIELDS = 200;

    private static final int PLAIN = 0;
    private static final int RAW = 1;

    private static final int IS_FIRST_WORD = 0;
    private static final int IS_NUMBER = 1;
    private static final int IS_REFERENCE = 2;
    private static final int IS_RAW_NUMBER = 3;

    private final int[] registers = new int[REGISTERS];
    private Half inUse;
    private Half spare;
    private int collections;
    private int movedWords;

    public CopyHeap(int words) {
        inUse = new Half(words);
        spare = new Half(words);
    }

    public int make(int register, int kind, int fields) throws IllegalArgumentException, IllegalStateException {
        requireRegister(register);
        if ((kind != PLAIN && kind != RAW) || fields < 0 || fields > MOST_FIELDS) {
            throw new IllegalArgumentException("no such kind, or not 0 to 200 fields");
        }
        if (!inUse.hasRoomFor(1 + fields)) {
            moveToSpare();
        }
        if (!inUse.hasRoomFor(1 + fields)) {
            throw new IllegalStateException("no room behind a collection");
        }
        int place = inUse.addObject(kind, fields);
        registers[register] = asReference(place);
        return place;
    }

    public int number(int register, int n) throws IllegalArgumentException {
        requireRegister(register);
        registers[register] = asNumber(n);
        return content(registers[register]);
    }

    public boolean copy(int register, int other) throws IllegalArgumentException {
        requireRegister(register);
        requireRegister(other);
        registers[register] = registers[other];
        return isReference(registers[register]);
    }

    public void put(int register, int k, int other)
            throws IllegalArgumentException, IllegalStateException, IndexOutOfBoundsException {
        requireRegister(register);
        requireRegister(other);
        int object = objectOf(register);
        int value = registers[other];
        boolean raw = inUse.kindAt(object) == RAW;
        if (raw && isReference(value)) {
            throw new IllegalStateException("a RAW object takes no reference");
        }
        requireField(object, k);
        inUse.setWord(object + 1 + k, raw ? content(value) : value);
    }

    public int raw(int register, int k, int n)
            throws IllegalArgumentException, IllegalStateException, IndexOutOfBoundsException {
        requireRegister(register);
        int object = objectOf(register);
        if (inUse.kindAt(object) != RAW) {
            throw new IllegalStateException("no RAW object");
        }
        requireField(object, k);
        int before = inUse.wordAt(object + 1 + k);
        inUse.setWord(object + 1 + k, n);
        return before;
    }

    public boolean get(int register, int other, int k)
            throws IllegalArgumentException, IllegalStateException, IndexOutOfBoundsException {
        requireRegister(register);
        requireRegister(other);
        int object = objectOf(other);
        requireField(object, k);
        int word = inUse.wordAt(object + 1 + k);
        registers[register] = inUse.kindAt(object) == RAW ? asNumber(word) : word;
        return isReference(registers[register]);
    }

    public int collect() {
        moveToSpare();
        return inUse.used;
    }

    public int about(int register, int what) throws IllegalArgumentException, IndexOutOfBoundsException {
        requireRegister(register);
        int value = registers[register];
        boolean refers = isReference(value);
        int content = content(value);
        switch (what) {
            case 0: return refers ? content : NONE;
            case 1: return refers ? 0 : content;
            case 2: return refers ? inUse.kindAt(content) : NONE;
            case 3: return refers ? inUse.fieldsAt(content) : NONE;
            default: throw new IndexOutOfBoundsException("what is not 0 to 3");
        }
    }

    public int look(int k, int what) throws IndexOutOfBoundsException {
        if (!inUse.holds(k)) {
            throw new IndexOutOfBoundsException("no such word in use");
        }
        int sort = inUse.sortAt(k);
        int word = inUse.wordAt(k);
        switch (what) {
            case 0: return sort;
            case 1: return sort == IS_NUMBER || sort == IS_REFERENCE ? content(word) : word;
            default: throw new IndexOutOfBoundsException("what is not 0 or 1");
        }
    }

    public int count(int what) throws IndexOutOfBoundsException {
        switch (what) {
            case 0: return inUse.words.length;
            case 1: return inUse.used;
            case 2: return collections;
            case 3: return movedWords;
            case 4: return inUse.objects;
            default: throw new IndexOutOfBoundsException("what is not 0 to 4");
        }
    }

    private static int asNumber(int n) {
        return n << 1;
    }

    private static int asReference(int place) {
        return place << 1 | 1;
    }

    private static boolean isReference(int value) {
        return (value & 1) != 0;
    }

    /** A value's number, or the place that it refers to. */
    private static int content(int value) {
        return value >> 1;
    }

    private static void requireRegister(int register) {
        if (register < 0 || register >= REGISTERS) {
            throw new IllegalArgumentException("no register");
        }
    }

    private void requireField(int object, int k) {
        if (k < 0 || k >= inUse.fieldsAt(object)) {
            throw new IndexOutOfBoundsException("no such field");
        }
    }

    /** The place of the object that a register refers to; the register is known to be one. */
    private int objectOf(int register) {
        int value = registers[register];
        if (!isReference(value)) {
            throw new IllegalStateException("the register refers to nothing");
        }
        return content(value);
    }

    /** A COLLECTION. */
    private void moveToSpare() {
        Half from = inUse;
        Half to = spare;
        to.empty();
        for (int register = 0; register < REGISTERS; register++) {
            registers[register] = from.movedValue(registers[register], to);
        }
        moveWhatFieldsReferTo(from, to);
        inUse = to;
        spare = from;
        collections++;
        movedWords += to.used;
    }

    /** Goes on into the words that it adds itself: they are the queue of the breadth first search. */
    private static void moveWhatFieldsReferTo(Half from, Half to) {
        int kind = PLAIN;
        int nextFirst = 0;
        for (int place = 0; place < to.words.length && place < to.used; place++) {
            if (place == nextFirst) {
                kind = to.kindAt(place);
                nextFirst = place + 1 + to.fieldsAt(place);
            } else if (kind == PLAIN) {
                to.setWord(place, from.movedValue(to.wordAt(place), to));
            }
        }
    }

    /**
     * One half. An object's first word is twice its fields and its kind; once the object has been
     * moved, it is below 0 instead, and its complement is the object's place in the other half.
     */
    private static final class Half {
        private static final int FEWEST_WORDS = 16;
        private static final int LOWEST_ELEVEN_BITS = 0x7FF;

        private final int[] words;
        private int used;
        private int objects;

        Half(int moreWords) {
            words = new int[FEWEST_WORDS + (moreWords & LOWEST_ELEVEN_BITS)];
        }

        void empty() {
            used = 0;
            objects = 0;
        }

        boolean hasRoomFor(int more) {
            return more <= words.length - used;
        }

        boolean holds(int place) {
            return place >= 0 && place < used;
        }

        int wordAt(int place) {
            return place >= 0 && place < words.length ? words[place] : 0;
        }

        void setWord(int place, int word) {
            if (place >= 0 && place < words.length) {
                words[place] = word;
            }
        }

        int kindAt(int object) {
            return wordAt(object) & 1;
        }

        int fieldsAt(int object) {
            return wordAt(object) >> 1;
        }

        /** What look(..) tells of a word; only going through the objects tells where they begin. */
        int sortAt(int place) {
            int first = 0;
            int nextFirst = 0;
            for (int at = 0; at <= place && at < used; at++) {
                if (at == nextFirst) {
                    first = at;
                    nextFirst = at + 1 + fieldsAt(at);
                }
            }
            if (place == first) {
                return IS_FIRST_WORD;
            }
            if (kindAt(first) == RAW) {
                return IS_RAW_NUMBER;
            }
            return isReference(wordAt(place)) ? IS_REFERENCE : IS_NUMBER;
        }

        /** Adds an object whose fields are all 0, for which there is room, and tells its place. */
        int addObject(int kind, int fields) {
            int place = used;
            addWord(fields << 1 | kind);
            for (int k = 0; k < fields; k++) {
                addWord(0);
            }
            objects++;
            return place;
        }

        private void addWord(int word) {
            setWord(used, word);
            used++;
        }

        /** A value of this half as it is in the other one, to which its object is moved if it was not yet. */
        int movedValue(int value, Half to) {
            if (!isReference(value)) {
                return value;
            }
            int place = content(value);
            if (wordAt(place) >= 0) {
                setWord(place, ~moveObject(place, to));
            }
            return asReference(~wordAt(place));
        }

        private int moveObject(int place, Half to) {
            int target = to.used;
            int fields = fieldsAt(place);
            for (int k = 0; k <= fields; k++) {
                to.addWord(wordAt(place + k));
            }
            to.objects++;
            return target;
        }
    }
}
