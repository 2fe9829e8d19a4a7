import java.util.ArrayList;
import java.util.List;
import java.util.function.Supplier;
import java.util.regex.Matcher;
import java.util.regex.Pattern;

/**
 * One test for each sentence of the document, above all those that name a boundary: too small, too large,
 * empty, full, a wrap-around, a refused call. A test bears the sentence's own words, and what fails is told under them.
 *
 * Calls are written as texts: "make(0, 0, 2) = 0" must answer 0, "make(8, 0, 2) throws
 * IllegalArgumentException" must throw just that, and "make(0, 0, 2)" must answer anything.
 */
public final class BoundaryTest {
    private static final int MOST_CALLS = 512;
    private static final int[] NO_REGISTERS = {-1, 8, 9, 1 << 31, 0x7FFFFFFF, -8};
    private static final int[][] GIVEN_AND_KEPT = {
        {0, 0}, {1, 1}, {-1, -1},
        {1073741822, 1073741822}, {1073741823, 1073741823}, {1073741824, -1073741824}, {1073741825, -1073741823},
        {-1073741823, -1073741823}, {-1073741824, -1073741824}, {-1073741825, 1073741823}, {-1073741826, 1073741822},
        {1610612736, -536870912}, {-1610612736, 536870912},
        {2147483647, -1}, {2147483646, -2}, {-2147483648, 0}, {-2147483647, 1}};

    private static final Pattern CALL = Pattern.compile("(\\w+)\\(([^)]*)\\)(?: = (\\S+)| throws (\\w+))?");

    private static String where = "";
    private static int sentences = 0;
    private static int broken = 0;
    private static boolean held = true;

    // ---- how a test is run

    private static void sentence(String part, String words, Runnable test) {
        where = part + ": \"" + words + "\"";
        held = true;
        try {
            test.run();
        } catch (RuntimeException e) {
            fail("ended early: " + e);
        }
        sentences++;
        if (!held) {
            broken++;
        }
    }

    private static void fail(String text) {
        if (held) {
            System.out.println(where);
        }
        held = false;
        System.out.println("    " + text);
    }

    /** One heap under test; the document promises nothing behind the 512th call, so no test may go there. */
    private static final class Run {
        private final CopyHeap heap;
        private final List<String> had = new ArrayList<>();

        Run(int words) {
            heap = new CopyHeap(words);
            had.add("new CopyHeap(" + words + ")");
        }

        int callsLeft() {
            return MOST_CALLS + 1 - had.size();
        }

        Run due(String... lines) {
            for (String line : lines) {
                dueLine(line);
            }
            return this;
        }

        private void dueLine(String line) {
            Matcher parts = CALL.matcher(line);
            if (!parts.matches()) {
                throw new IllegalStateException("the test itself is wrong: " + line);
            }
            String want = parts.group(4) != null ? "throws " + parts.group(4) : parts.group(3);
            String got = answer(parts.group(1), numbersIn(parts.group(2)));
            if (want == null ? got.startsWith("throws ") : !want.equals(got)) {
                fail(line + ", but: " + got + ", behind " + lastCalls());
            }
        }

        private String lastCalls() {
            int from = Math.max(0, had.size() - 13);
            return (from > 0 ? ".. " : "") + String.join("; ", had.subList(from, had.size() - 1));
        }

        private String answer(String name, int[] a) {
            had.add(name + java.util.Arrays.toString(a));
            if (had.size() > MOST_CALLS + 1) {
                throw new IllegalStateException("the test itself is wrong: more than 512 calls");
            }
            try {
                return String.valueOf(call(name, a));
            } catch (RuntimeException e) {
                return "throws " + e.getClass().getSimpleName();
            }
        }

        private Object call(String name, int[] a) {
            switch (name) {
                case "make": return heap.make(a[0], a[1], a[2]);
                case "number": return heap.number(a[0], a[1]);
                case "copy": return heap.copy(a[0], a[1]);
                case "put": heap.put(a[0], a[1], a[2]); return "done";
                case "raw": return heap.raw(a[0], a[1], a[2]);
                case "get": return heap.get(a[0], a[1], a[2]);
                case "collect": return heap.collect();
                case "about": return heap.about(a[0], a[1]);
                case "look": return heap.look(a[0], a[1]);
                case "count": return heap.count(a[0]);
                default: throw new Error("the test itself is wrong: " + name);
            }
        }

        Run refers(int register, int place, int kind, int fields) {
            return about(register, place, 0, kind, fields);
        }

        Run isNumber(int register, int number) {
            return about(register, -1, number, -1, -1);
        }

        private Run about(int register, int... want) {
            for (int what = 0; what < 4; what++) {
                due("about(" + register + ", " + what + ") = " + want[what]);
            }
            return this;
        }

        /** The counts from what 0 on. */
        Run counts(int... want) {
            for (int what = 0; what < want.length; what++) {
                due("count(" + what + ") = " + want[what]);
            }
            return this;
        }

        /** All words in use from place 0 on, such as "first 2", "number 5", "reference 3", "raw 7". */
        Run words(String... want) {
            due("count(1) = " + want.length);
            for (int k = 0; k < want.length; k++) {
                word(k, want[k]);
            }
            return due("look(" + want.length + ", 0) throws IndexOutOfBoundsException");
        }

        Run word(int k, String want) {
            String[] sortAndValue = want.split(" ");
            int sort = List.of("first", "number", "reference", "raw").indexOf(sortAndValue[0]);
            return due("look(" + k + ", 0) = " + sort, "look(" + k + ", 1) = " + sortAndValue[1]);
        }

        /** All that can be seen, so that two heaps can be held against each other. */
        List<String> state() {
            List<String> all = new ArrayList<>();
            for (int what = 0; what < 5; what++) {
                all.add(answer("count", new int[] {what}));
            }
            for (int register = 0; register < 8; register++) {
                for (int what = 0; what < 4; what++) {
                    all.add(answer("about", new int[] {register, what}));
                }
            }
            for (int k = 0; k < Integer.parseInt(all.get(1)); k++) {
                all.add(answer("look", new int[] {k, 0}) + " " + answer("look", new int[] {k, 1}));
            }
            return all;
        }
    }

    private static int[] numbersIn(String text) {
        if (text.isEmpty()) {
            return new int[0];
        }
        String[] texts = text.split(", ");
        int[] numbers = new int[texts.length];
        for (int k = 0; k < texts.length; k++) {
            numbers[k] = Integer.parseInt(texts[k]);
        }
        return numbers;
    }

    private static Run on(int words, String... lines) {
        return new Run(words).due(lines);
    }

    /**
     * The call must throw just this, and a second heap that never had the call must look the same, both at
     * once and behind a collection (which shows what a look at the half in use does not).
     */
    private static void refused(Supplier<Run> setup, String call, String exception) {
        String line = call + " throws " + exception;
        sameState(call, setup.get().due(line), setup.get());
        sameState(call + " and collect()", setup.get().due(line, "collect()"), setup.get().due("collect()"));
    }

    private static void sameState(String behind, Run x, Run twin) {
        List<String> got = x.state();
        List<String> want = twin.state();
        if (!got.equals(want)) {
            fail("the state behind " + behind + " is " + got + ", due is " + want);
        }
    }

    private static void argument(Supplier<Run> setup, String call) {
        refused(setup, call, "IllegalArgumentException");
    }

    private static void state(Supplier<Run> setup, String call) {
        refused(setup, call, "IllegalStateException");
    }

    private static void index(Supplier<Run> setup, String call) {
        refused(setup, call, "IndexOutOfBoundsException");
    }

    /**
     * Registers 0: PLAIN, 2 fields; 1: RAW, 2 fields; 2: the number -9; 3: RAW, no field; 4: PLAIN, no field;
     * 5 to 7: numbers. Twelve words of sixteen are in use, of which the last four are garbage.
     */
    private static Run mixed() {
        return on(0, "make(0, 0, 2)", "make(1, 1, 2)", "number(2, -9)", "make(3, 1, 0)", "make(4, 0, 0)",
            "put(0, 0, 1)", "put(0, 1, 2)", "raw(1, 0, 7)", "raw(1, 1, -8)", "make(7, 0, 3)", "number(7, 77)");
    }

    /** Two objects that fill the half to its last word; register 1 refers to the RAW one, 6 to the PLAIN one. */
    private static Run full() {
        return on(0, "make(1, 1, 6)", "make(6, 0, 8)", "raw(1, 5, 3)", "put(6, 7, 1)");
    }

    private static Run empty() {
        return on(0);
    }

    // ---- What it is

    private static void oneHalfInUse() {
        on(0, "make(0, 1, 7) = 0", "make(1, 1, 7) = 8", "count(1) = 16", "count(0) = 16",
            "make(2, 0, 0) throws IllegalStateException", "count(1) = 16", "count(0) = 16")
            .due("look(15, 0) = 3", "look(16, 0) throws IndexOutOfBoundsException")
            .due("collect() = 16", "make(2, 0, 0) throws IllegalStateException", "count(0) = 16", "count(1) = 16");
        Run x = on(5, "make(3, 0, 1) = 0");
        for (int collections = 1; collections <= 5; collections++) {
            x.due("collect() = 2").counts(21, 2, collections, 2 * collections, 1).words("first 2", "number 0");
        }
    }

    /**
     * Two roots that share what is below them: by levels that is 0: A (register 2), B (register 5); 1: C, D of A
     * and E of B; 2: F of D. Depth first would put C ahead of B, and E ahead of D.
     */
    private static void reachedBreadthFirst() {
        Run x = on(20, "make(0, 0, 2) = 0", "make(1, 0, 2) = 3", "make(3, 0, 2) = 6", "make(4, 0, 2) = 9",
            "make(5, 0, 2) = 12", "make(2, 0, 2) = 15");
        x.due("put(2, 0, 4)", "put(2, 1, 3)", "put(5, 0, 1)", "put(5, 1, 3)", "put(3, 0, 0)", "put(0, 1, 2)",
            "put(1, 0, 1)", "put(4, 1, 5)", "number(0, 0)", "number(1, 0)", "number(3, 0)", "number(4, 0)");
        x.due("collect() = 18").refers(2, 0, 0, 2).refers(5, 3, 0, 2)
            .words("first 4", "reference 6", "reference 9", "first 4", "reference 12", "reference 9",
                "first 4", "number 0", "reference 3", "first 4", "reference 15", "number 0",
                "first 4", "reference 12", "number 0", "first 4", "number 0", "reference 0");
    }

    private static void eachRegisterIsARoot() {
        for (int register = 0; register < 8; register++) {
            int other = (register + 3) % 8;
            on(0, "make(" + other + ", 1, 1) = 0", "raw(" + other + ", 0, 99) = 0",
                "make(" + register + ", 0, 1) = 2", "put(" + register + ", 0, " + other + ")",
                "number(" + other + ", 0)", "collect() = 4").refers(register, 0, 0, 1).words("first 2", "reference 2", "first 3", "raw 99");
        }
    }

    /** Garbage ahead of, between and behind what is kept; objects that refer only to each other, or to what is kept. */
    private static void theRestIsGone() {
        on(4, "make(0, 1, 1) = 0", "make(1, 0, 2) = 2", "make(0, 0, 1) = 5", "make(2, 0, 1) = 7", "make(3, 0, 1) = 9",
            "put(2, 0, 3)", "put(3, 0, 2)", "put(0, 0, 1)", "make(4, 1, 3) = 11", "number(0, 0)", "number(2, 0)",
            "number(3, 0)", "number(4, 0)", "count(4) = 6", "count(1) = 15", "collect() = 3")
            .counts(20, 3, 1, 3, 1).refers(1, 0, 0, 2).words("first 4", "number 0", "number 0")
            .due("make(0, 0, 16) = 3").counts(20, 20, 1, 3, 2);
        on(0, "make(0, 0, 1) = 0", "put(0, 0, 0)", "number(0, 0)", "collect() = 0").counts(16, 0, 1, 0, 0).words();
    }

    private static void upTo512Calls() {
        Run makes = on(0, "make(0, 0, 3) = 0");
        for (int call = 2; call <= 511; call++) {
            makes.due("make(0, 0, 3) = " + (call <= 4 ? 4 * (call - 1) : 4 + 4 * ((call - 5) % 3)));
        }
        makes.due("count(2) = 169");
        Run collects = on(2047, "make(0, 0, 200) = 0");
        for (int k = 1; k < 10; k++) {
            collects.due("make(1, 0, 200) = " + 201 * k, "put(0, " + k + ", 1)");
        }
        collects.due("make(2, 0, 52) = 2010");
        int collections = collects.callsLeft() - 1;
        for (int k = 0; k < collections; k++) {
            collects.due("collect() = 2063");
        }
        collects.due("count(3) = " + 2063 * collections);
    }

    private static void heapsStandAlone() {
        Run x = mixed();
        Run y = full();
        Run z = empty().due("make(0, 0, 2) = 0", "number(0, 5)", "collect() = 0");
        y.due("collect() = 16", "number(6, 1)", "collect() = 7");
        z.due("make(1, 1, 3) = 0", "raw(1, 2, 4) = 0");
        x.counts(16, 12, 0, 0, 5);
        y.counts(16, 7, 2, 23, 1);
        z.counts(16, 4, 1, 0, 1);
        sameState("calls on other heaps", x, mixed());
        sameState("collections of its own", y, full().due("collect() = 16", "number(6, 1)", "collect() = 7"));
    }

    // ---- Terms

    private static void firstWordTells() {
        for (int fields : new int[] {0, 1, 2, 7, 15}) {
            for (int kind = 0; kind < 2; kind++) {
                on(0, "make(4, " + kind + ", " + fields + ") = 0").word(0, "first " + (2 * fields + kind))
                    .refers(4, 0, kind, fields)
                    .due("collect() = " + (1 + fields)).word(0, "first " + (2 * fields + kind))
                    .refers(4, 0, kind, fields);
            }
        }
    }

    private static void plainFieldsAreValues() {
        on(0, "make(0, 0, 3) = 0", "make(1, 1, 0) = 4", "number(2, -1073741824)", "put(0, 0, 1)", "put(0, 1, 2)",
            "put(0, 2, 0)").words("first 6", "reference 4", "number -1073741824", "reference 0", "first 1")
            .due("put(0, 0, 2)", "put(0, 1, 1)").word(1, "number -1073741824").word(2, "reference 4")
            .due("get(3, 0, 0) = false").isNumber(3, -1073741824)
            .due("get(3, 0, 1) = true").refers(3, 4, 1, 0);
    }

    private static void referenceIsFirstWord() {
        on(0, "make(0, 0, 3) = 0", "make(1, 0, 1) = 4", "make(2, 1, 2) = 6", "put(0, 0, 0)", "put(0, 1, 1)",
            "put(0, 2, 2)", "put(1, 0, 2)").refers(0, 0, 0, 3).refers(1, 4, 0, 1).refers(2, 6, 1, 2)
            .words("first 6", "reference 0", "reference 4", "reference 6", "first 2", "reference 6",
                "first 5", "raw 0", "raw 0")
            .due("number(0, 0)", "collect() = 5").refers(1, 0, 0, 1).refers(2, 2, 1, 2)
            .words("first 2", "reference 2", "first 5", "raw 0", "raw 0");
    }

    private static void numbersWrap() {
        for (int[] pair : GIVEN_AND_KEPT) {
            on(0, "number(0, " + pair[0] + ") = " + pair[1]).isNumber(0, pair[1])
                .due("make(1, 0, 1) = 0", "put(1, 0, 0)").word(1, "number " + pair[1])
                .due("collect() = 2").isNumber(0, pair[1]).word(1, "number " + pair[1])
                .due("get(2, 1, 0) = false").isNumber(2, pair[1])
                .due("copy(3, 2) = false").isNumber(3, pair[1]);
        }
    }

    private static void noFieldsTo200() {
        for (int kind = 0; kind < 2; kind++) {
            String field = kind == 0 ? "number 0" : "raw 0";
            on(0, "make(0, " + kind + ", 0) = 0").refers(0, 0, kind, 0).words("first " + kind)
                .due("collect() = 1").refers(0, 0, kind, 0).words("first " + kind);
            on(0, "make(0, " + kind + ", 1) = 0").refers(0, 0, kind, 1).words("first " + (2 + kind), field);
            on(300, "make(0, " + kind + ", 199) = 0").refers(0, 0, kind, 199).due("count(1) = 200");
            on(300, "make(0, " + kind + ", 200) = 0").refers(0, 0, kind, 200).due("count(1) = 201")
                .word(0, "first " + (400 + kind)).word(1, field).word(200, field)
                .due("look(201, 0) throws IndexOutOfBoundsException")
                .due("collect() = 201").refers(0, 0, kind, 200).word(0, "first " + (400 + kind)).word(200, field);
        }
    }

    private static void oneWordEach() {
        Run x = on(2047);
        int used = 0;
        for (int fields : new int[] {0, 1, 2, 200, 3, 0, 199, 7}) {
            for (int kind = 0; kind < 2; kind++) {
                x.due("make(5, " + kind + ", " + fields + ") = " + used);
                used += 1 + fields;
                x.due("count(1) = " + used);
            }
        }
    }

    private static void rawNeverRefers() {
        for (int word : new int[] {0, 1, 2, 3, 4, 5, 6, 7, -1, -2, -3, -4, 2147483647, -2147483648, -2147483647}) {
            on(0, "make(0, 0, 1) = 0", "make(1, 1, 1) = 2", "make(2, 1, 0) = 4", "raw(1, 0, " + word + ") = 0",
                "number(0, 0)", "number(2, 0)").word(3, "raw " + word)
                .due("collect() = 2").words("first 3", "raw " + word).counts(16, 2, 1, 2, 1)
                .due("collect() = 2").words("first 3", "raw " + word)
                .due("raw(1, 0, 0) = " + word);
        }
    }

    private static void placesFromZero() {
        on(0, "make(3, 0, 1) = 0").refers(3, 0, 0, 1)
            .due("make(4, 0, 1) = 2", "number(3, 0)", "collect() = 2").refers(4, 0, 0, 1).word(0, "first 2")
            .due("make(5, 0, 0) = 2", "put(4, 0, 4)").words("first 2", "reference 0", "first 0")
            .due("look(-1, 0) throws IndexOutOfBoundsException");
    }

    private static void registersZeroToSeven() {
        Run x = on(0);
        for (int register = 0; register < 8; register++) {
            x.due("number(" + register + ", " + (10 + register) + ") = " + (10 + register));
        }
        for (int register = 0; register < 8; register++) {
            x.isNumber(register, 10 + register);
        }
        for (int register = 0; register < 8; register++) {
            x.due("make(" + register + ", 0, 1) = " + 2 * register);
        }
        for (int register = 0; register < 8; register++) {
            x.refers(register, 2 * register, 0, 1);
        }
        x.due("collect() = 16").counts(16, 16, 1, 16, 8);
        for (int register : NO_REGISTERS) {
            x.due("about(" + register + ", 0) throws IllegalArgumentException");
        }
    }

    private static void nextWords() {
        on(0, "make(0, 0, 2) = 0", "make(0, 1, 0) = 3", "make(1, 0, 0) = 4", "make(0, 1, 3) = 5", "count(1) = 9")
            .refers(1, 4, 0, 0).refers(0, 5, 1, 3)
            .due("collect() = 5", "make(2, 0, 1) = 5", "make(3, 0, 0) = 7", "count(1) = 8");
    }

    private static void collectionComesFirst() {
        on(0, "make(0, 0, 10) = 0", "make(0, 0, 4) = 11").counts(16, 16, 0, 0, 2)
            .due("make(1, 0, 0) = 5").counts(16, 6, 1, 5, 2).refers(0, 0, 0, 4).refers(1, 5, 0, 0);
        on(0, "make(0, 0, 10) = 0", "make(0, 0, 3) = 11").counts(16, 15, 0, 0, 2)
            .due("make(1, 0, 1) = 4").counts(16, 6, 1, 4, 2).refers(0, 0, 0, 3).refers(1, 4, 0, 1);
        on(0, "make(0, 0, 10) = 0", "make(0, 0, 3) = 11", "make(1, 0, 0) = 15").counts(16, 16, 0, 0, 3);
        on(0, "make(0, 0, 15) = 0", "number(0, 0)", "make(0, 1, 15) = 0").counts(16, 16, 1, 0, 1);
        on(184, "make(0, 0, 199) = 0", "count(2) = 0", "number(0, 0)", "make(0, 1, 199) = 0", "count(2) = 1");
    }

    private static void collectionStays() {
        on(0, "make(0, 0, 6) = 0", "make(1, 0, 6) = 7", "copy(5, 1)", "number(0, 0)",
            "make(2, 0, 9) throws IllegalStateException").counts(16, 7, 1, 7, 1)
            .refers(1, 0, 0, 6).refers(5, 0, 0, 6).isNumber(2, 0)
            .due("make(2, 0, 8) = 7").counts(16, 16, 1, 7, 2).refers(2, 7, 0, 8)
            .due("make(3, 0, 0) throws IllegalStateException").counts(16, 16, 2, 23, 2).isNumber(3, 0);
    }

    private static void otherHalfIsEmpty() {
        Run x = on(0, "make(0, 1, 15)");
        for (int k = 0; k < 15; k++) {
            x.due("raw(0, " + k + ", " + (-1 - k) + ")");
        }
        x.due("number(0, 0)", "make(1, 1, 0) = 0").counts(16, 1, 1, 0, 1).words("first 1")
            .due("collect() = 1").counts(16, 1, 2, 1, 1).words("first 1").refers(1, 0, 1, 0)
            .due("make(2, 0, 2) = 1").words("first 1", "first 4", "number 0", "number 0")
            .due("number(1, 0)", "number(2, 0)", "collect() = 0").words();
    }

    private static void registersInOrder() {
        Run x = on(0);
        for (int register = 7; register >= 0; register--) {
            x.due("make(" + register + ", " + register % 2 + ", 1) = " + 2 * (7 - register));
        }
        x.due("collect() = 16");
        for (int register = 0; register < 8; register++) {
            x.refers(register, 2 * register, register % 2, 1);
        }
        // What a register refers to itself comes ahead of what the fields of an earlier one refer to.
        on(0, "make(3, 0, 0) = 0", "make(7, 0, 1) = 1", "make(0, 0, 1) = 3", "put(0, 0, 3)", "number(3, 0)",
            "collect() = 5").refers(0, 0, 0, 1).refers(7, 2, 0, 1)
            .words("first 2", "reference 4", "first 2", "number 0", "first 0");
    }

    private static void movedOnce() {
        on(0, "make(0, 0, 3) = 0", "copy(3, 0)", "copy(7, 0)", "put(0, 0, 0)", "put(0, 2, 0)", "collect() = 4")
            .counts(16, 4, 1, 4, 1).refers(0, 0, 0, 3).refers(3, 0, 0, 3).refers(7, 0, 0, 3)
            .words("first 6", "reference 0", "number 0", "reference 0");
        on(0, "make(0, 1, 0) = 0", "copy(1, 0)", "collect() = 1").counts(16, 1, 1, 1, 1)
            .refers(0, 0, 1, 0).refers(1, 0, 1, 0);
        Run wide = on(200, "make(1, 1, 0) = 0", "make(0, 0, 200) = 1");
        for (int k = 0; k < 200; k++) {
            wide.due("put(0, " + k + ", 1)");
        }
        wide.due("collect() = 202").counts(216, 202, 1, 202, 2).refers(0, 0, 0, 200).refers(1, 201, 1, 0)
            .word(1, "reference 201").word(100, "reference 201").word(200, "reference 201").word(201, "first 1");
    }

    private static void wordsComeBehind() {
        on(0, "make(7, 0, 2) = 0", "make(5, 1, 3) = 3", "make(2, 0, 0) = 7", "make(0, 1, 1) = 8", "number(1, -5)",
            "put(7, 0, 2)", "put(7, 1, 1)", "raw(5, 0, 11)", "raw(5, 2, 13)", "raw(0, 0, 17)", "collect() = 10")
            .words("first 3", "raw 17", "first 0", "first 7", "raw 11", "raw 0", "raw 13",
                "first 4", "reference 2", "number -5")
            .refers(0, 0, 1, 1).isNumber(1, -5).refers(2, 2, 0, 0).refers(5, 3, 1, 3).refers(7, 7, 0, 2);
    }

    /** A tree of seven nodes in which breadth first, depth first and the order of making all differ. */
    private static void plainFieldsInOrder() {
        Run x = on(12);
        for (int node = 6; node >= 0; node--) {
            x.due("make(" + node + ", 0, 3) = " + 4 * (6 - node), "number(7, " + node + ")", "put(" + node + ", 1, 7)");
        }
        for (int node = 0; node < 3; node++) {
            x.due("put(" + node + ", 0, " + (2 * node + 1) + ")", "put(" + node + ", 2, " + (2 * node + 2) + ")");
        }
        for (int node = 1; node < 7; node++) {
            x.due("number(" + node + ", 0)");
        }
        x.due("collect() = 28").counts(28, 28, 1, 28, 7);
        for (int node = 0; node < 7; node++) {
            boolean leaf = node > 2;
            x.word(4 * node, "first 6").word(4 * node + 2, "number " + node)
                .word(4 * node + 1, leaf ? "number 0" : "reference " + 4 * (2 * node + 1))
                .word(4 * node + 3, leaf ? "number 0" : "reference " + 4 * (2 * node + 2));
        }
    }

    /** A RAW object's words that would be places, between PLAIN objects whose fields are to be moved. */
    private static void rawFieldsNothing() {
        on(0, "make(0, 0, 1) = 0", "make(1, 1, 2) = 2", "make(2, 0, 1) = 5", "make(3, 0, 0) = 7", "make(4, 0, 0) = 8",
            "raw(1, 0, 7)", "raw(1, 1, 15)", "put(2, 0, 4)", "number(3, 0)", "number(4, 0)", "collect() = 8")
            .words("first 2", "number 0", "first 5", "raw 7", "raw 15", "first 2", "reference 7", "first 0")
            .counts(16, 8, 1, 8, 4);
    }

    private static void endsWhenAllGoneThrough() {
        on(0, "collect() = 0").words().counts(16, 0, 1, 0, 0);
        on(0, "make(0, 0, 1)", "make(1, 0, 1)", "make(2, 0, 1)", "put(0, 0, 1)", "put(1, 0, 2)", "put(2, 0, 0)",
            "number(1, 0)", "number(2, 0)", "collect() = 6")
            .words("first 2", "reference 2", "first 2", "reference 4", "first 2", "reference 0")
            .due("number(0, 0)", "collect() = 0").words();
        Run chain = on(284, "make(0, 0, 2) = 0");
        for (int node = 1; node < 100; node++) {
            chain.due("make(1, 0, 2) = " + 3 * node, "put(1, 1, 0)", "copy(0, 1)");
        }
        chain.due("number(1, 0)", "count(1) = 300", "collect() = 300").counts(300, 300, 1, 300, 100);
        for (int node = 0; node < 99; node++) {
            chain.due("look(" + (3 * node + 2) + ", 1) = " + 3 * (node + 1));
        }
        chain.word(297, "first 4").word(298, "number 0").word(299, "number 0");
    }

    private static void firstToldIsThrown() {
        argument(BoundaryTest::full, "make(8, 0, 1)");
        argument(BoundaryTest::full, "make(0, 2, 1)");
        argument(BoundaryTest::full, "make(0, 0, 201)");
        for (int k : new int[] {-1, 2, 200, 201, -2147483648, 2147483647}) {
            argument(BoundaryTest::mixed, "put(8, " + k + ", 2)");
            argument(BoundaryTest::mixed, "put(0, " + k + ", 8)");
            argument(BoundaryTest::mixed, "put(1, " + k + ", -1)");
            argument(BoundaryTest::mixed, "put(2, " + k + ", 8)");
            state(BoundaryTest::mixed, "put(2, " + k + ", 0)");
            state(BoundaryTest::mixed, "put(1, " + k + ", 0)");
            state(BoundaryTest::mixed, "put(3, " + k + ", 0)");
            argument(BoundaryTest::mixed, "raw(8, " + k + ", 5)");
            state(BoundaryTest::mixed, "raw(2, " + k + ", 5)");
            state(BoundaryTest::mixed, "raw(0, " + k + ", 5)");
            state(BoundaryTest::mixed, "raw(4, " + k + ", 5)");
            argument(BoundaryTest::mixed, "get(8, 2, " + k + ")");
            argument(BoundaryTest::mixed, "get(8, 0, " + k + ")");
            argument(BoundaryTest::mixed, "get(0, 8, " + k + ")");
            state(BoundaryTest::mixed, "get(0, 2, " + k + ")");
        }
        argument(BoundaryTest::mixed, "about(8, 4)");
        argument(BoundaryTest::mixed, "about(-1, -1)");
    }

    /** The one that tells of a change: a make without room leaves what a collection alone would leave. */
    private static void throwChangesNothingButAsTold() {
        Run x = mixed().due("make(5, 1, 12) throws IllegalStateException");
        sameState("make(5, 1, 12)", x, mixed().due("collect() = 8"));
        x = full().due("make(1, 0, 0) throws IllegalStateException");
        sameState("make(1, 0, 0)", x, full().due("collect() = 16"));
        x = empty().due("make(3, 1, 16) throws IllegalStateException");
        sameState("make(3, 1, 16)", x, empty().due("collect() = 0"));
        index(BoundaryTest::full, "put(6, 8, 6)");
        index(BoundaryTest::full, "get(6, 6, 8)");
        index(BoundaryTest::full, "raw(1, 6, 1)");
        index(BoundaryTest::full, "look(16, 0)");
        state(BoundaryTest::full, "put(1, 5, 6)");
        state(BoundaryTest::full, "get(6, 0, 0)");
        state(BoundaryTest::full, "raw(6, 7, 1)");
        argument(BoundaryTest::full, "copy(6, 8)");
        argument(BoundaryTest::full, "number(8, 1)");
    }

    private static void noneIsMinusOne() {
        if (CopyHeap.NONE != -1) {
            fail("NONE is " + CopyHeap.NONE);
        }
        on(0, "number(0, -1)", "about(0, 0) = -1", "about(0, 1) = -1", "about(0, 2) = -1", "about(0, 3) = -1");
    }

    private static void whatItIs() {
        sentence("What it is", "A heap of words in two halves, of which one is in use", BoundaryTest::oneHalfInUse);
        sentence("What it is", "what can be reached is moved into the other half, breadth first",
            BoundaryTest::reachedBreadthFirst);
        sentence("What it is", "from eight registers", BoundaryTest::eachRegisterIsARoot);
        sentence("What it is", "and the rest is gone", BoundaryTest::theRestIsGone);
        sentence("What it is", "An object is used for at most 512 calls", BoundaryTest::upTo512Calls);
        sentence("Rule 5 of LANGUAGE.md", "No other static state", BoundaryTest::heapsStandAlone);
    }

    private static void terms() {
        sentence("Terms", "a first word, which tells its kind and how many fields it has",
            BoundaryTest::firstWordTells);
        sentence("Terms", "of kind 0 (PLAIN) VALUES", BoundaryTest::plainFieldsAreValues);
        sentence("Terms", "a REFERENCE is the place of an object's first word", BoundaryTest::referenceIsFirstWord);
        sentence("Terms", "NUMBERS of 31 bits (from -2^30 on; others wrap)", BoundaryTest::numbersWrap);
        sentence("Terms", "how many fields it has (0 to 200)", BoundaryTest::noFieldsTo200);
        sentence("Terms", "its fields, one word each", BoundaryTest::oneWordEach);
        sentence("Terms", "RAW numbers of 32 bits, which never refer", BoundaryTest::rawNeverRefers);
        sentence("Terms", "PLACES are words of the half in use, from 0 on", BoundaryTest::placesFromZero);
        sentence("Terms", "REGISTERS are 0 to 7; each has a VALUE", BoundaryTest::registersZeroToSeven);
        sentence("Terms", "MAKING an object takes the next words behind those in use", BoundaryTest::nextWords);
        sentence("Terms", "When there are too few, a COLLECTION comes first", BoundaryTest::collectionComesFirst);
        sentence("Terms", "when there are still too few, the object is not made (the collection stays)",
            BoundaryTest::collectionStays);
        sentence("Terms", "the other half, empty, comes into use", BoundaryTest::otherHalfIsEmpty);
        sentence("Terms", "The registers are gone through from 0 to 7", BoundaryTest::registersInOrder);
        sentence("Terms", "an object that one refers to, and that has not been moved, is moved",
            BoundaryTest::movedOnce);
        sentence("Terms", "its words come behind those in use there; the register refers to where it is now",
            BoundaryTest::wordsComeBehind);
        sentence("Terms", "Then the words there are gone through from place 0 on: fields of PLAIN objects likewise",
            BoundaryTest::plainFieldsInOrder);
        sentence("Terms", "of RAW ones nothing", BoundaryTest::rawFieldsNothing);
        sentence("Terms", "It ends when there are none that were not gone through",
            BoundaryTest::endsWhenAllGoneThrough);
        sentence("Terms", "Of several exceptions the first one told is thrown", BoundaryTest::firstToldIsThrown);
        sentence("Terms", "a call that throws changes nothing but as told",
            BoundaryTest::throwChangesNothingButAsTold);
        sentence("Terms", "NONE = -1: None", BoundaryTest::noneIsMinusOne);
    }

    // ---- Promise 1: a new object

    private static void halvesOfLowestElevenBits() {
        int[][] wordsAndHalf = {{0, 16}, {1, 17}, {2, 18}, {1023, 1039}, {1024, 1040}, {2046, 2062}, {2047, 2063},
            {2048, 16}, {2049, 17}, {3072, 1040}, {4095, 2063}, {4096, 16}, {65536, 16}, {1073741824, 16},
            {2147483647, 2063}, {-1, 2063}, {-2, 2062}, {-2047, 17}, {-2048, 16}, {-2049, 2063}, {-2147483648, 16},
            {-2147483647, 17}};
        for (int[] pair : wordsAndHalf) {
            on(pair[0], "count(0) = " + pair[1]);
            fillBothHalves(pair[0], pair[1]);
        }
    }

    /** The size that is told must be the size there is, in the first half and in the other one. */
    private static void fillBothHalves(int words, int half) {
        for (String first : new String[] {"count(2) = 0", "collect() = 0"}) {
            Run x = on(words, first);
            int used = 0;
            for (; half - used > 201; used += 201) {
                x.due("make(0, 0, 200) = " + used);
            }
            x.due("make(1, 0, " + (half - used - 1) + ") = " + used, "count(1) = " + half,
                "count(2) = " + (first.startsWith("collect") ? 1 : 0));
        }
    }

    private static void nothingInUse() {
        for (int words : new int[] {0, 1, 2047, -1, -2147483648}) {
            on(words, "look(0, 0) throws IndexOutOfBoundsException", "look(0, 1) throws IndexOutOfBoundsException",
                "count(1) = 0", "count(2) = 0", "count(3) = 0", "count(4) = 0", "collect() = 0");
        }
    }

    private static void allRegistersAreZero() {
        for (int register = 0; register < 8; register++) {
            on(0).isNumber(register, 0).due("copy(0, " + register + ") = false");
        }
    }

    // ---- Promise 2: make

    private static void allFieldsZero() {
        for (int kind = 0; kind < 2; kind++) {
            String field = kind == 0 ? "number 0" : "raw 0";
            Run x = on(0);
            // Both halves are written full once, so that each word which is made new again has been another.
            for (int half = 0; half < 2; half++) {
                x.due("make(0, 1, 15) = 0");
                for (int k = 0; k < 15; k++) {
                    x.due("raw(0, " + k + ", -3)");
                }
                x.due("number(0, 0)", "collect() = 0");
            }
            x.due("make(0, " + kind + ", 15) = 0", "look(0, 1) = " + (30 + kind));
            for (int k = 1; k < 16; k++) {
                x.word(k, field);
            }
        }
    }

    private static void registerRefersToIt() {
        for (int register = 0; register < 8; register++) {
            on(0, "make(" + register + ", 1, 3) = 0").refers(register, 0, 1, 3)
                .due("make(" + register + ", 0, 2) = 4").refers(register, 4, 0, 2)
                .due("make(" + register + ", 0, 8) = 7").refers(register, 7, 0, 8)
                .due("make(" + register + ", 0, 6) = 9").refers(register, 9, 0, 6).counts(16, 16, 1, 9, 2);
        }
    }

    private static void makeNoRegister() {
        for (int register : NO_REGISTERS) {
            argument(BoundaryTest::mixed, "make(" + register + ", 0, 1)");
            argument(BoundaryTest::empty, "make(" + register + ", 1, 0)");
        }
    }

    private static void makeNoKind() {
        for (int kind : new int[] {-1, 2, 3, 256, -2147483648, 2147483647, -2147483647}) {
            argument(BoundaryTest::mixed, "make(0, " + kind + ", 1)");
            argument(BoundaryTest::mixed, "make(5, " + kind + ", 0)");
        }
    }

    private static void makeWrongFields() {
        for (int fields : new int[] {-1, 201, 202, 256, -200, -2147483648, 2147483647}) {
            argument(() -> on(2047, "make(1, 0, 2)"), "make(0, 0, " + fields + ")");
            argument(() -> on(2047, "make(1, 0, 2)"), "make(1, 1, " + fields + ")");
        }
    }

    private static void makeNoRoomBehindCollection() {
        full().due("make(0, 0, 0) throws IllegalStateException", "count(2) = 1").isNumber(0, 0);
        full().due("make(0, 1, 200) throws IllegalStateException", "count(2) = 1").isNumber(0, 0);
        empty().due("make(0, 0, 15) = 0");
        empty().due("make(0, 0, 16) throws IllegalStateException").counts(16, 0, 1, 0, 0).isNumber(0, 0);
        empty().due("make(0, 1, 200) throws IllegalStateException", "make(0, 1, 15) = 0").counts(16, 16, 1, 0, 1);
        on(184, "make(0, 0, 200) throws IllegalStateException", "make(0, 0, 199) = 0");
        on(185, "make(0, 0, 200) = 0", "count(2) = 0");
        mixed().due("make(5, 0, 8) throws IllegalStateException", "count(1) = 8", "count(2) = 1");
        mixed().due("make(5, 0, 7) = 8", "count(1) = 16", "count(2) = 1");
        // Up to the collection the register still has its old value, which keeps the old object.
        on(0, "make(0, 0, 8) = 0", "make(0, 0, 7) throws IllegalStateException").refers(0, 0, 0, 8)
            .due("make(0, 0, 6) = 9").refers(0, 9, 0, 6);
    }

    private static void collectionOnlyIfTooLittle() {
        mixed().due("make(5, 0, 3) = 12").counts(16, 16, 0, 0, 6);
        mixed().due("make(5, 0, 4) = 8").counts(16, 13, 1, 8, 5);
        full().due("make(0, 0, 0) throws IllegalStateException").counts(16, 16, 1, 16, 2)
            .due("make(0, 0, 0) throws IllegalStateException").counts(16, 16, 2, 32, 2)
            .due("number(1, 0)", "number(6, 0)", "make(0, 0, 0) = 0").counts(16, 1, 3, 32, 1);
    }

    // ---- Promises 3 and 4: number and copy

    private static void numberAsKept() {
        for (int register = 0; register < 8; register++) {
            Run x = on(0, "make(" + register + ", 0, 2)");
            for (int[] pair : GIVEN_AND_KEPT) {
                x.due("number(" + register + ", " + pair[0] + ") = " + pair[1]).isNumber(register, pair[1]);
            }
            x.counts(16, 3, 0, 0, 1);
        }
    }

    private static void numberNoRegister() {
        for (int register : NO_REGISTERS) {
            argument(BoundaryTest::mixed, "number(" + register + ", 5)");
        }
    }

    private static void copyTellsReference() {
        mixed().due("copy(7, 0) = true").refers(7, 0, 0, 2).refers(0, 0, 0, 2)
            .due("copy(0, 7) = true", "copy(7, 4) = true").refers(7, 7, 0, 0)
            .due("copy(1, 3) = true").refers(1, 6, 1, 0)
            .due("copy(0, 2) = false").isNumber(0, -9).isNumber(2, -9).due("copy(2, 5) = false").isNumber(2, 0);
        mixed().due("copy(0, 0) = true").refers(0, 0, 0, 2).due("copy(2, 2) = false").isNumber(2, -9);
        for (int number : new int[] {-1073741824, 1073741823, -1, 1, 0}) {
            on(0, "number(0, " + number + ")", "make(7, 0, 0)", "copy(7, 0) = false").isNumber(7, number);
        }
    }

    private static void copyNoRegister() {
        for (int register : NO_REGISTERS) {
            argument(BoundaryTest::mixed, "copy(" + register + ", 0)");
            argument(BoundaryTest::mixed, "copy(0, " + register + ")");
            argument(BoundaryTest::mixed, "copy(" + register + ", " + register + ")");
        }
    }

    // ---- Promise 5: put

    private static void putBecomesValue() {
        on(300, "make(0, 0, 200) = 0", "make(1, 0, 1) = 201", "number(2, -1073741824)", "put(0, 0, 1)",
            "put(0, 199, 2)").word(1, "reference 201").word(2, "number 0").word(199, "number 0")
            .word(200, "number -1073741824").word(201, "first 2").word(202, "number 0")
            .due("put(0, 199, 0)", "put(0, 0, 2)").word(200, "reference 0").word(1, "number -1073741824")
            .refers(0, 0, 0, 200).refers(1, 201, 0, 1).isNumber(2, -1073741824);
    }

    private static void putRawItsNumber() {
        for (int[] pair : GIVEN_AND_KEPT) {
            on(0, "make(0, 1, 2) = 0", "number(1, " + pair[0] + ")", "put(0, 1, 1)")
                .words("first 5", "raw 0", "raw " + pair[1]).due("raw(0, 1, 0) = " + pair[1]);
        }
        on(300, "make(0, 1, 200)", "number(1, -1)", "put(0, 0, 1)", "put(0, 199, 1)")
            .word(1, "raw -1").word(2, "raw 0").word(200, "raw -1");
    }

    private static void putNoRegister() {
        for (int register : NO_REGISTERS) {
            argument(BoundaryTest::mixed, "put(" + register + ", 0, 0)");
            argument(BoundaryTest::mixed, "put(0, 0, " + register + ")");
            argument(BoundaryTest::mixed, "put(1, 0, " + register + ")");
        }
    }

    private static void putRefersToNothing() {
        state(BoundaryTest::empty, "put(0, 0, 0)");
        state(BoundaryTest::mixed, "put(2, 0, 0)");
        state(BoundaryTest::mixed, "put(7, 0, 2)");
        // A number that is the place of an object is still no reference.
        state(() -> on(0, "make(0, 0, 2)", "number(1, 0)"), "put(1, 0, 0)");
        state(() -> on(0, "make(0, 0, 2)", "number(0, 1)"), "put(0, 0, 1)");
    }

    private static void putReferenceIntoRaw() {
        state(BoundaryTest::mixed, "put(1, 0, 0)");
        state(BoundaryTest::mixed, "put(1, 1, 1)");
        state(BoundaryTest::mixed, "put(1, 0, 3)");
        mixed().due("put(1, 0, 2)").word(4, "raw -9");
    }

    private static void putNoSuchField() {
        for (int k : new int[] {-1, 2, 3, 200, -2147483648, 2147483647, 2147483646}) {
            index(BoundaryTest::mixed, "put(0, " + k + ", 0)");
            index(BoundaryTest::mixed, "put(0, " + k + ", 2)");
            index(BoundaryTest::mixed, "put(1, " + k + ", 2)");
        }
        index(BoundaryTest::mixed, "put(4, 0, 2)");
        index(BoundaryTest::mixed, "put(3, 0, 2)");
        index(() -> on(185, "make(0, 0, 200)", "number(0, 0)", "make(1, 0, 200)"), "put(1, 200, 1)");
    }

    // ---- Promise 6: raw

    private static void rawOf32Bits() {
        int before = 0;
        Run x = on(300, "make(0, 1, 200) = 0", "make(1, 1, 1) = 201");
        for (int n : new int[] {-2147483648, 2147483647, -1, 1, 1073741824, -1073741825, 3, 0}) {
            x.due("raw(0, 0, " + n + ") = " + before, "raw(0, 199, " + n + ") = " + before)
                .word(1, "raw " + n).word(200, "raw " + n).word(2, "raw 0").word(201, "first 3").word(202, "raw 0");
            before = n;
        }
        x.due("number(2, -5)", "put(0, 7, 2)", "raw(0, 7, 6) = -5", "raw(0, 7, 6) = 6");
    }

    private static void rawNoRegister() {
        for (int register : NO_REGISTERS) {
            argument(BoundaryTest::mixed, "raw(" + register + ", 0, 1)");
        }
    }

    private static void rawRefersToNoRaw() {
        state(BoundaryTest::empty, "raw(0, 0, 1)");
        state(BoundaryTest::mixed, "raw(2, 0, 1)");
        state(BoundaryTest::mixed, "raw(0, 0, 1)");
        state(BoundaryTest::mixed, "raw(0, 1, 1)");
        state(() -> on(0, "make(0, 1, 2)", "number(1, 0)"), "raw(1, 0, 1)");
    }

    private static void rawNoSuchField() {
        for (int k : new int[] {-1, 2, 3, 200, -2147483648, 2147483647, 2147483646}) {
            index(BoundaryTest::mixed, "raw(1, " + k + ", 1)");
        }
        index(BoundaryTest::mixed, "raw(3, 0, 1)");
        index(() -> on(185, "make(0, 0, 200)", "number(0, 0)", "make(1, 1, 200)"), "raw(1, 200, 1)");
    }

    // ---- Promise 7: get

    private static void getBecomesField() {
        on(300, "make(0, 0, 200) = 0", "make(1, 1, 0) = 201", "number(2, -1073741824)", "put(0, 0, 1)",
            "put(0, 199, 2)", "get(3, 0, 0) = true").refers(3, 201, 1, 0)
            .due("get(3, 0, 199) = false").isNumber(3, -1073741824).due("get(3, 0, 1) = false").isNumber(3, 0)
            .due("put(0, 5, 0)", "get(0, 0, 5) = true").refers(0, 0, 0, 200)
            .due("get(0, 0, 0) = true").refers(0, 201, 1, 0);
        mixed().due("get(1, 0, 1) = false").isNumber(1, -9);
    }

    private static void getRawAsNumberKeeps() {
        for (int[] pair : GIVEN_AND_KEPT) {
            on(0, "make(0, 1, 1) = 0", "make(1, 0, 0) = 2", "raw(0, 0, " + pair[0] + ")", "get(1, 0, 0) = false")
                .isNumber(1, pair[1]).word(1, "raw " + pair[0])
                .due("get(0, 0, 0) = false").isNumber(0, pair[1]);
        }
    }

    private static void getNoRegister() {
        for (int register : NO_REGISTERS) {
            argument(BoundaryTest::mixed, "get(" + register + ", 0, 0)");
            argument(BoundaryTest::mixed, "get(0, " + register + ", 0)");
        }
    }

    private static void getRefersToNothing() {
        state(BoundaryTest::empty, "get(0, 0, 0)");
        state(BoundaryTest::mixed, "get(0, 2, 0)");
        state(BoundaryTest::mixed, "get(2, 2, 0)");
        state(() -> on(0, "make(0, 0, 2)", "number(1, 0)"), "get(0, 1, 0)");
        // It is the other one that must refer; the register may be a number.
        mixed().due("get(2, 0, 0) = true").refers(2, 3, 1, 2);
    }

    private static void getNoSuchField() {
        for (int k : new int[] {-1, 2, 3, 200, -2147483648, 2147483647, 2147483646}) {
            index(BoundaryTest::mixed, "get(5, 0, " + k + ")");
            index(BoundaryTest::mixed, "get(0, 1, " + k + ")");
        }
        index(BoundaryTest::mixed, "get(5, 3, 0)");
        index(BoundaryTest::mixed, "get(4, 4, 0)");
        index(() -> on(185, "make(0, 0, 200)", "number(0, 0)", "make(1, 0, 200)"), "get(0, 1, 200)");
    }

    // ---- Promise 8: collect

    private static void collectTellsWordsInUse() {
        empty().due("collect() = 0", "collect() = 0").counts(16, 0, 2, 0, 0);
        full().due("collect() = 16").counts(16, 16, 1, 16, 2).due("collect() = 16").counts(16, 16, 2, 32, 2)
            .refers(1, 0, 1, 6).refers(6, 7, 0, 8).word(6, "raw 3").word(15, "reference 0");
        mixed().due("collect() = 8").counts(16, 8, 1, 8, 4).isNumber(7, 77);
        on(0, "make(0, 0, 15)", "number(0, 5)", "collect() = 0").counts(16, 0, 1, 0, 0).isNumber(0, 5);
        on(0, "make(0, 0, 0)", "collect() = 1", "number(0, 0)", "collect() = 0").counts(16, 0, 2, 1, 0);
    }

    // ---- Promise 9: about

    private static void aboutPlace() {
        mixed().due("about(0, 0) = 0", "about(1, 0) = 3", "about(3, 0) = 6", "about(4, 0) = 7", "about(2, 0) = -1",
            "about(5, 0) = -1", "number(4, 7)", "about(4, 0) = -1", "make(5, 1, 3) = 12", "about(5, 0) = 12");
        on(2047, "make(0, 0, 200)", "make(0, 0, 200)", "make(0, 0, 200)", "make(0, 0, 200)", "make(0, 0, 200)",
            "make(0, 0, 200)", "make(0, 0, 200)", "make(0, 0, 200)", "make(0, 0, 200)", "make(0, 0, 200)",
            "make(0, 0, 51)", "make(7, 0, 0) = 2062", "about(7, 0) = 2062");
    }

    private static void aboutNumber() {
        mixed().due("about(2, 1) = -9", "about(5, 1) = 0", "about(0, 1) = 0", "about(1, 1) = 0", "about(4, 1) = 0",
            "number(2, -1073741824)", "about(2, 1) = -1073741824", "number(2, 1073741823)", "about(2, 1) = 1073741823",
            "number(2, -1)", "about(2, 1) = -1");
    }

    private static void aboutKind() {
        mixed().due("about(0, 2) = 0", "about(1, 2) = 1", "about(2, 2) = -1", "about(3, 2) = 1", "about(4, 2) = 0",
            "about(5, 2) = -1", "number(5, 1)", "about(5, 2) = -1");
    }

    private static void aboutFields() {
        mixed().due("about(0, 3) = 2", "about(1, 3) = 2", "about(2, 3) = -1", "about(3, 3) = 0", "about(4, 3) = 0",
            "about(5, 3) = -1");
        on(500, "make(0, 0, 200)", "make(1, 1, 200)", "about(0, 3) = 200", "about(1, 3) = 200");
    }

    private static void aboutNoRegister() {
        for (int register : NO_REGISTERS) {
            for (int what = 0; what < 4; what++) {
                argument(BoundaryTest::mixed, "about(" + register + ", " + what + ")");
            }
        }
    }

    private static void aboutAnotherWhat() {
        for (int what : new int[] {-1, 4, 5, -2147483648, 2147483647}) {
            index(BoundaryTest::mixed, "about(0, " + what + ")");
            index(BoundaryTest::mixed, "about(2, " + what + ")");
        }
    }

    // ---- Promise 10: look

    private static void lookSortAndValue() {
        mixed().words("first 4", "reference 3", "number -9", "first 5", "raw 7", "raw -8", "first 1", "first 0",
            "first 6", "number 0", "number 0", "number 0");
        on(600, "make(0, 0, 200) = 0", "make(1, 1, 200) = 201", "make(2, 0, 0) = 402", "number(3, 1073741823)",
            "put(0, 0, 0)", "put(0, 199, 2)", "put(0, 1, 3)", "raw(1, 0, -2147483648)", "raw(1, 199, 2147483647)")
            .word(0, "first 400").word(1, "reference 0").word(2, "number 1073741823").word(200, "reference 402")
            .word(201, "first 401").word(202, "raw -2147483648").word(401, "raw 2147483647").word(402, "first 0");
        // Words that look like another sort: a RAW one like a first word, a number like a reference.
        on(0, "make(0, 1, 2) = 0", "make(1, 0, 2) = 3", "raw(0, 0, 4)", "raw(0, 1, 1)", "number(2, -1073741824)",
            "put(1, 0, 2)", "put(1, 1, 1)")
            .words("first 5", "raw 4", "raw 1", "first 4", "number -1073741824", "reference 3");
    }

    private static void lookNoSuchWord() {
        for (int what = 0; what < 2; what++) {
            index(BoundaryTest::empty, "look(0, " + what + ")");
            for (int k : new int[] {-1, 12, 15, 16, 17, -2147483648, 2147483647}) {
                index(BoundaryTest::mixed, "look(" + k + ", " + what + ")");
            }
            index(BoundaryTest::full, "look(16, " + what + ")");
            full().due("look(15, " + what + ")", "look(0, " + what + ")");
            mixed().due("look(11, " + what + ")", "collect() = 8", "look(7, " + what + ")",
                "look(8, " + what + ") throws IndexOutOfBoundsException");
        }
    }

    private static void lookAnotherWhat() {
        for (int what : new int[] {-1, 2, 3, -2147483648, 2147483647}) {
            index(BoundaryTest::mixed, "look(0, " + what + ")");
            index(BoundaryTest::mixed, "look(1, " + what + ")");
            index(BoundaryTest::mixed, "look(12, " + what + ")");
        }
    }

    // ---- Promise 11: count

    private static void countWordsOfHalf() {
        on(5, "count(0) = 21", "make(0, 0, 20)", "count(0) = 21", "collect()", "count(0) = 21", "number(0, 0)",
            "collect()", "count(0) = 21");
    }

    private static void countInUse() {
        on(0, "count(1) = 0", "make(0, 0, 0)", "count(1) = 1", "make(0, 1, 14)", "count(1) = 16", "number(0, 0)",
            "count(1) = 16", "collect()", "count(1) = 0");
    }

    private static void countCollections() {
        on(0, "count(2) = 0", "collect()", "count(2) = 1", "make(0, 0, 15)", "count(2) = 1",
            "make(1, 0, 0) throws IllegalStateException", "count(2) = 2", "number(0, 0)", "make(1, 0, 0)",
            "count(2) = 3", "make(8, 0, 200) throws IllegalArgumentException", "count(2) = 3");
    }

    private static void countMovedWords() {
        on(0, "count(3) = 0", "make(0, 1, 4)", "make(1, 0, 9)", "count(3) = 0", "collect()", "count(3) = 15",
            "number(1, 0)", "collect()", "count(3) = 20", "copy(7, 0)", "collect()", "count(3) = 25", "number(0, 0)",
            "number(7, 0)", "collect()", "count(3) = 25", "make(0, 0, 0)", "collect()", "count(3) = 26");
    }

    private static void countObjects() {
        on(0, "count(4) = 0", "make(0, 0, 0)", "count(4) = 1", "make(0, 1, 13)", "count(4) = 2", "make(1, 0, 0)",
            "count(4) = 3", "make(2, 0, 1) throws IllegalStateException", "count(4) = 2", "number(0, 0)",
            "count(4) = 2", "make(2, 0, 15) throws IllegalStateException", "count(4) = 1", "make(2, 0, 1)",
            "count(4) = 2", "number(1, 0)", "number(2, 0)", "collect()", "count(4) = 0");
        Run x = on(0);
        for (int k = 1; k <= 16; k++) {
            x.due("make(3, 0, 0) = " + (k - 1), "count(4) = " + k);
        }
        x.due("make(3, 0, 0) = 1", "count(4) = 2");
    }

    private static void countAnotherWhat() {
        for (int what : new int[] {-1, 5, 6, -2147483648, 2147483647}) {
            index(BoundaryTest::mixed, "count(" + what + ")");
            index(BoundaryTest::empty, "count(" + what + ")");
        }
    }

    private static void promisesOneToFour() {
        sentence("Promise 1", "Halves of 16 words and as many more as the lowest eleven bits of words tell",
            BoundaryTest::halvesOfLowestElevenBits);
        sentence("Promise 1", "nothing in use", BoundaryTest::nothingInUse);
        sentence("Promise 1", "all registers are the NUMBER 0", BoundaryTest::allRegistersAreZero);
        sentence("Promise 2", "A new object of a kind, all fields 0", BoundaryTest::allFieldsZero);
        sentence("Promise 2", "the register refers to it; its place", BoundaryTest::registerRefersToIt);
        sentence("Promise 2", "IllegalArgumentException: no register", BoundaryTest::makeNoRegister);
        sentence("Promise 2", "IllegalArgumentException: kind not 0 or 1", BoundaryTest::makeNoKind);
        sentence("Promise 2", "IllegalArgumentException: fields not 0 to 200", BoundaryTest::makeWrongFields);
        sentence("Promise 2", "IllegalStateException: there is no room behind a collection",
            BoundaryTest::makeNoRoomBehindCollection);
        sentence("Promise 2", "(which is done then, if there was too little ahead of it)",
            BoundaryTest::collectionOnlyIfTooLittle);
        sentence("Promise 3", "The register's value becomes a NUMBER: that number as it is kept",
            BoundaryTest::numberAsKept);
        sentence("Promise 3", "IllegalArgumentException: no register", BoundaryTest::numberNoRegister);
        sentence("Promise 4", "The register's value becomes another's: whether that is a REFERENCE",
            BoundaryTest::copyTellsReference);
        sentence("Promise 4", "IllegalArgumentException: no register", BoundaryTest::copyNoRegister);
    }

    private static void promisesFiveToSeven() {
        sentence("Promise 5", "Field k of the object that a register refers to becomes another register's value",
            BoundaryTest::putBecomesValue);
        sentence("Promise 5", "(of a RAW object: its NUMBER)", BoundaryTest::putRawItsNumber);
        sentence("Promise 5", "IllegalArgumentException: no register", BoundaryTest::putNoRegister);
        sentence("Promise 5", "IllegalStateException: it refers to nothing", BoundaryTest::putRefersToNothing);
        sentence("Promise 5", "IllegalStateException: or to a RAW object and the other one's value is a REFERENCE",
            BoundaryTest::putReferenceIntoRaw);
        sentence("Promise 5", "IndexOutOfBoundsException: there is no such field", BoundaryTest::putNoSuchField);
        sentence("Promise 6", "Field k of the RAW object becomes a number of 32 bits: the one that it was",
            BoundaryTest::rawOf32Bits);
        sentence("Promise 6", "IllegalArgumentException: no register", BoundaryTest::rawNoRegister);
        sentence("Promise 6", "IllegalStateException: it refers to no RAW object", BoundaryTest::rawRefersToNoRaw);
        sentence("Promise 6", "IndexOutOfBoundsException: there is no such field", BoundaryTest::rawNoSuchField);
        sentence("Promise 7", "The register's value becomes field k of the object: whether it is a REFERENCE",
            BoundaryTest::getBecomesField);
        sentence("Promise 7", "(of a RAW one as number(..) would keep it)", BoundaryTest::getRawAsNumberKeeps);
        sentence("Promise 7", "IllegalArgumentException: no register", BoundaryTest::getNoRegister);
        sentence("Promise 7", "IllegalStateException: it refers to nothing", BoundaryTest::getRefersToNothing);
        sentence("Promise 7", "IndexOutOfBoundsException: there is no such field", BoundaryTest::getNoSuchField);
    }

    private static void promisesEightToEleven() {
        sentence("Promise 8", "A COLLECTION: how many words are in use behind it",
            BoundaryTest::collectTellsWordsInUse);
        sentence("Promise 9", "A register's place (what 0; NONE of a NUMBER)", BoundaryTest::aboutPlace);
        sentence("Promise 9", "NUMBER (what 1; 0 of a REFERENCE)", BoundaryTest::aboutNumber);
        sentence("Promise 9", "its object's kind (2; NONE)", BoundaryTest::aboutKind);
        sentence("Promise 9", "fields (3; NONE)", BoundaryTest::aboutFields);
        sentence("Promise 9", "IllegalArgumentException: no register", BoundaryTest::aboutNoRegister);
        sentence("Promise 9", "IndexOutOfBoundsException: another what", BoundaryTest::aboutAnotherWhat);
        sentence("Promise 10", "Word k of those in use: what it is and its value", BoundaryTest::lookSortAndValue);
        sentence("Promise 10", "IndexOutOfBoundsException: there is no such word", BoundaryTest::lookNoSuchWord);
        sentence("Promise 10", "IndexOutOfBoundsException: or another what", BoundaryTest::lookAnotherWhat);
        sentence("Promise 11", "Words of a half (what 0)", BoundaryTest::countWordsOfHalf);
        sentence("Promise 11", "in use (1)", BoundaryTest::countInUse);
        sentence("Promise 11", "COLLECTIONS (2)", BoundaryTest::countCollections);
        sentence("Promise 11", "words that were moved in all of them (3)", BoundaryTest::countMovedWords);
        sentence("Promise 11", "objects in use (4)", BoundaryTest::countObjects);
        sentence("Promise 11", "IndexOutOfBoundsException: another what", BoundaryTest::countAnotherWhat);
    }

    public static void main(String[] args) {
        whatItIs();
        terms();
        promisesOneToFour();
        promisesFiveToSeven();
        promisesEightToEleven();
        System.out.println(sentences + " sentences, of which " + broken + " do not hold");
        if (broken != 0) {
            System.exit(1);
        }
    }
}
