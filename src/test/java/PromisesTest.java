import java.util.ArrayList;
import java.util.List;

/**
 * Each promise by hand: ordinary inputs, the edges that the document names, wrong inputs. No heap here has
 * more than 512 calls, behind which the document promises nothing.
 */
public final class PromisesTest {
    private interface Call {
        int answer();
    }

    private interface Act {
        void run();
    }

    private static final Class<? extends RuntimeException> ARGUMENT = IllegalArgumentException.class;
    private static final Class<? extends RuntimeException> STATE = IllegalStateException.class;
    private static final Class<? extends RuntimeException> INDEX = IndexOutOfBoundsException.class;
    private static final int[] NO_REGISTERS = {-1, 8, Integer.MIN_VALUE, Integer.MAX_VALUE};

    private static int wrong = 0;

    private static void fail(String text) {
        wrong++;
        System.out.println(text);
    }

    private static void due(String call, int want, Call asked) {
        try {
            int got = asked.answer();
            if (got != want) {
                fail(call + " answered " + got + ", due is " + want);
            }
        } catch (RuntimeException e) {
            fail(call + " threw " + e + ", due is " + want);
        }
    }

    private static void dueBoolean(String call, boolean want, java.util.function.BooleanSupplier asked) {
        due(call, want ? 1 : 0, () -> asked.getAsBoolean() ? 1 : 0);
    }

    /** The calls, which all throw, must change nothing that can be seen. */
    private static void dueNoChange(CopyHeap x, String calls, Act wrongCalls) {
        List<Integer> before = stateOf(x);
        wrongCalls.run();
        if (!before.equals(stateOf(x))) {
            fail(calls + " threw and changed the state");
        }
    }

    private static void dueThrow(String call, Class<? extends RuntimeException> want, Act act) {
        try {
            act.run();
            fail(call + " did not throw " + want.getSimpleName());
        } catch (RuntimeException e) {
            if (e.getClass() != want) {
                fail(call + " threw " + e + ", due is " + want.getSimpleName());
            }
        }
    }

    private static List<Integer> stateOf(CopyHeap x) {
        List<Integer> all = new ArrayList<>();
        for (int what = 0; what < 5; what++) {
            all.add(x.count(what));
        }
        for (int register = 0; register < 8; register++) {
            for (int what = 0; what < 4; what++) {
                all.add(x.about(register, what));
            }
        }
        for (int k = 0; k < x.count(1); k++) {
            all.add(x.look(k, 0));
            all.add(x.look(k, 1));
        }
        return all;
    }

    private static void dueWord(CopyHeap x, int k, int sort, int value) {
        due("look(" + k + ", 0)", sort, () -> x.look(k, 0));
        due("look(" + k + ", 1)", value, () -> x.look(k, 1));
    }

    private static void dueRegister(CopyHeap x, int register, int place, int number, int kind, int fields) {
        int[] want = {place, number, kind, fields};
        for (int what = 0; what < 4; what++) {
            int asked = what;
            due("about(" + register + ", " + what + ")", want[what], () -> x.about(register, asked));
        }
    }

    private static void dueCounts(CopyHeap x, int... want) {
        for (int what = 0; what < want.length; what++) {
            int asked = what;
            due("count(" + what + ")", want[what], () -> x.count(asked));
        }
    }

    private static void newObject() {
        int[][] wordsAndHalf = {{0, 16}, {1, 17}, {2047, 2063}, {2048, 16}, {2049, 17}, {4095, 2063},
            {-1, 2063}, {-2048, 16}, {-2047, 17}, {Integer.MIN_VALUE, 16}, {Integer.MAX_VALUE, 2063}, {1024, 1040}};
        for (int[] pair : wordsAndHalf) {
            CopyHeap x = new CopyHeap(pair[0]);
            dueCounts(x, pair[1], 0, 0, 0, 0);
            for (int register = 0; register < 8; register++) {
                dueRegister(x, register, CopyHeap.NONE, 0, CopyHeap.NONE, CopyHeap.NONE);
            }
            dueThrow("look(0, 0) of a new object", INDEX, () -> x.look(0, 0));
        }
        due("NONE", -1, () -> CopyHeap.NONE);
    }

    private static void makeOrdinary() {
        CopyHeap x = new CopyHeap(2047);
        due("make(7, 0, 2)", 0, () -> x.make(7, 0, 2));
        due("make(0, 1, 0)", 3, () -> x.make(0, 1, 0));
        due("make(1, 0, 0)", 4, () -> x.make(1, 0, 0));
        due("make(2, 1, 200)", 5, () -> x.make(2, 1, 200));
        due("make(3, 0, 200)", 206, () -> x.make(3, 0, 200));
        dueRegister(x, 7, 0, 0, 0, 2);
        dueRegister(x, 0, 3, 0, 1, 0);
        dueRegister(x, 1, 4, 0, 0, 0);
        dueRegister(x, 2, 5, 0, 1, 200);
        dueRegister(x, 3, 206, 0, 0, 200);
        dueCounts(x, 2063, 407, 0, 0, 5);
    }

    private static void makeMostFields() {
        for (int kind = 0; kind < 2; kind++) {
            int asked = kind;
            CopyHeap x = new CopyHeap(200);
            due("make(0, " + kind + ", 200)", 0, () -> x.make(0, asked, 200));
            dueWord(x, 0, 0, 400 + kind);
            for (int k = 1; k <= 200; k++) {
                dueWord(x, k, kind == 0 ? 1 : 3, 0);
            }
        }
    }

    private static void makeWrong() {
        CopyHeap x = new CopyHeap(0);
        x.make(3, 0, 14);
        dueNoChange(x, "wrong calls of make", () -> makeWrong(x));
    }

    private static void makeWrong(CopyHeap x) {
        for (int register : NO_REGISTERS) {
            dueThrow("make of no register", ARGUMENT, () -> x.make(register, 0, 1));
            dueThrow("make of no register, without room", ARGUMENT, () -> x.make(register, 0, 100));
        }
        for (int kind : new int[] {-1, 2, 3, Integer.MIN_VALUE, Integer.MAX_VALUE}) {
            dueThrow("make of no kind", ARGUMENT, () -> x.make(0, kind, 1));
        }
        for (int fields : new int[] {-1, 201, Integer.MIN_VALUE, Integer.MAX_VALUE}) {
            dueThrow("make of wrong fields", ARGUMENT, () -> x.make(0, 1, fields));
        }
    }

    private static void makeWithoutRoom() {
        CopyHeap x = new CopyHeap(0);
        due("make(0, 0, 15) just fits", 0, () -> x.make(0, 0, 15));
        dueCounts(x, 16, 16, 0, 0, 1);
        dueThrow("make(1, 0, 0) of a full half", STATE, () -> x.make(1, 0, 0));
        dueCounts(x, 16, 16, 1, 16, 1);
        dueRegister(x, 1, CopyHeap.NONE, 0, CopyHeap.NONE, CopyHeap.NONE);
        x.number(0, 9);
        dueThrow("make(0, 0, 16) of more than a half", STATE, () -> x.make(0, 0, 16));
        dueCounts(x, 16, 0, 2, 16, 0);
        dueRegister(x, 0, CopyHeap.NONE, 9, CopyHeap.NONE, CopyHeap.NONE);
        dueThrow("make(0, 1, 200) of an empty half", STATE, () -> x.make(0, 1, 200));
        dueCounts(x, 16, 0, 3, 16, 0);
    }

    private static void makeBehindCollection() {
        CopyHeap x = new CopyHeap(0);
        x.make(0, 1, 7);
        for (int k = 0; k < 7; k++) {
            x.raw(0, k, -1);
        }
        x.make(1, 0, 3);
        due("make(0, 0, 3) with room", 12, () -> x.make(0, 0, 3));
        due("make(2, 0, 7) behind a collection", 8, () -> x.make(2, 0, 7));
        dueCounts(x, 16, 16, 1, 8, 3);
        dueRegister(x, 0, 0, 0, 0, 3);
        dueRegister(x, 1, 4, 0, 0, 3);
        for (int k = 9; k < 16; k++) {
            dueWord(x, k, 1, 0);
        }
        CopyHeap y = new CopyHeap(0);
        y.make(0, 0, 8);
        dueThrow("make into the register that holds the last reference", STATE, () -> y.make(0, 0, 8));
        dueRegister(y, 0, 0, 0, 0, 8);
        dueCounts(y, 16, 9, 1, 9, 1);
    }

    /** What lay in a half two collections ago must not show in a new object's fields. */
    private static void makeClearsFields() {
        CopyHeap x = new CopyHeap(0);
        x.make(0, 1, 15);
        for (int k = 0; k < 15; k++) {
            x.raw(0, k, Integer.MIN_VALUE + k);
        }
        x.number(0, 0);
        x.collect();
        x.collect();
        due("make(0, 1, 15)", 0, () -> x.make(0, 1, 15));
        for (int k = 1; k < 16; k++) {
            dueWord(x, k, 3, 0);
        }
    }

    private static void number() {
        int[][] givenAndKept = {{0, 0}, {5, 5}, {-5, -5}, {1073741823, 1073741823}, {1073741824, -1073741824},
            {1073741825, -1073741823}, {-1073741824, -1073741824}, {-1073741825, 1073741823},
            {Integer.MAX_VALUE, -1}, {Integer.MIN_VALUE, 0}, {Integer.MIN_VALUE + 1, 1}};
        for (int register = 0; register < 8; register++) {
            int asked = register;
            CopyHeap x = new CopyHeap(0);
            for (int[] pair : givenAndKept) {
                due("number(" + register + ", " + pair[0] + ")", pair[1], () -> x.number(asked, pair[0]));
                dueRegister(x, register, CopyHeap.NONE, pair[1], CopyHeap.NONE, CopyHeap.NONE);
            }
        }
        numberOverReference();
    }

    private static void numberOverReference() {
        CopyHeap x = new CopyHeap(0);
        x.make(4, 0, 1);
        due("number over a reference", 7, () -> x.number(4, 7));
        dueRegister(x, 4, CopyHeap.NONE, 7, CopyHeap.NONE, CopyHeap.NONE);
        dueCounts(x, 16, 2, 0, 0, 1);
        dueNoChange(x, "number of no register", () -> {
            for (int register : NO_REGISTERS) {
                dueThrow("number of no register", ARGUMENT, () -> x.number(register, 3));
            }
        });
    }

    private static void copy() {
        CopyHeap x = new CopyHeap(0);
        x.make(0, 0, 1);
        x.make(1, 1, 2);
        x.number(7, -8);
        dueBoolean("copy(2, 1)", true, () -> x.copy(2, 1));
        dueRegister(x, 2, 2, 0, 1, 2);
        dueBoolean("copy(2, 7)", false, () -> x.copy(2, 7));
        dueRegister(x, 2, CopyHeap.NONE, -8, CopyHeap.NONE, CopyHeap.NONE);
        dueBoolean("copy(0, 0)", true, () -> x.copy(0, 0));
        dueRegister(x, 0, 0, 0, 0, 1);
        dueBoolean("copy(7, 7)", false, () -> x.copy(7, 7));
        dueBoolean("copy(3, 0)", true, () -> x.copy(3, 0));
        x.put(3, 0, 7);
        dueWord(x, 1, 1, -8);
        dueBoolean("get(4, 0, 0) sees what was put through the copy", false, () -> x.get(4, 0, 0));
        dueRegister(x, 4, CopyHeap.NONE, -8, CopyHeap.NONE, CopyHeap.NONE);
        dueNoChange(x, "copy of no register", () -> {
            for (int register : NO_REGISTERS) {
                dueThrow("copy to no register", ARGUMENT, () -> x.copy(register, 0));
                dueThrow("copy of no register", ARGUMENT, () -> x.copy(0, register));
            }
        });
    }

    private static void put() {
        CopyHeap x = new CopyHeap(0);
        x.make(0, 0, 2);
        x.make(1, 1, 2);
        x.number(2, -1073741824);
        x.put(0, 0, 1);
        dueWord(x, 1, 2, 3);
        x.put(0, 1, 2);
        dueWord(x, 2, 1, -1073741824);
        x.put(0, 1, 0);
        dueWord(x, 2, 2, 0);
        x.put(0, 0, 2);
        dueWord(x, 1, 1, -1073741824);
        x.put(1, 1, 2);
        dueWord(x, 4, 3, 0);
        dueWord(x, 5, 3, -1073741824);
        dueRegister(x, 0, 0, 0, 0, 2);
        dueRegister(x, 2, CopyHeap.NONE, -1073741824, CopyHeap.NONE, CopyHeap.NONE);
        x.make(5, 0, 0);
        dueNoChange(x, "wrong calls of put", () -> putWrong(x));
    }

    private static void putWrong(CopyHeap x) {
        for (int register : NO_REGISTERS) {
            dueThrow("put to no register", ARGUMENT, () -> x.put(register, 0, 0));
            dueThrow("put of no register", ARGUMENT, () -> x.put(0, 0, register));
            dueThrow("put of no register to a number", ARGUMENT, () -> x.put(2, 9, register));
        }
        dueThrow("put to a number", STATE, () -> x.put(2, 0, 0));
        dueThrow("put to a number, no field", STATE, () -> x.put(2, -1, 0));
        dueThrow("put of a reference to a RAW object", STATE, () -> x.put(1, 0, 0));
        dueThrow("put of a reference to a RAW object, no field", STATE, () -> x.put(1, 2, 1));
        for (int k : new int[] {-1, 2, 3, Integer.MIN_VALUE, Integer.MAX_VALUE}) {
            dueThrow("put to no field of a PLAIN object", INDEX, () -> x.put(0, k, 1));
            dueThrow("put to no field of a RAW object", INDEX, () -> x.put(1, k, 2));
        }
        dueThrow("put to an object without fields", INDEX, () -> x.put(5, 0, 2));
    }

    private static void raw() {
        CopyHeap x = new CopyHeap(0);
        x.make(0, 0, 2);
        x.make(1, 1, 2);
        due("raw(1, 0, MIN)", 0, () -> x.raw(1, 0, Integer.MIN_VALUE));
        due("raw(1, 0, MAX)", Integer.MIN_VALUE, () -> x.raw(1, 0, Integer.MAX_VALUE));
        due("raw(1, 1, 1)", 0, () -> x.raw(1, 1, 1));
        due("raw(1, 0, -3)", Integer.MAX_VALUE, () -> x.raw(1, 0, -3));
        dueWord(x, 4, 3, -3);
        dueWord(x, 5, 3, 1);
        dueNoChange(x, "wrong calls of raw", () -> rawWrong(x));
    }

    private static void rawWrong(CopyHeap x) {
        for (int register : NO_REGISTERS) {
            dueThrow("raw of no register", ARGUMENT, () -> x.raw(register, 0, 1));
        }
        dueThrow("raw of a number", STATE, () -> x.raw(2, 0, 1));
        dueThrow("raw of a PLAIN object", STATE, () -> x.raw(0, 0, 1));
        dueThrow("raw of a PLAIN object, no field", STATE, () -> x.raw(0, 2, 1));
        for (int k : new int[] {-1, 2, Integer.MIN_VALUE, Integer.MAX_VALUE}) {
            dueThrow("raw of no field", INDEX, () -> x.raw(1, k, 1));
        }
    }

    private static void get() {
        CopyHeap x = new CopyHeap(0);
        x.make(0, 0, 3);
        x.make(1, 1, 2);
        x.number(2, 1073741823);
        x.put(0, 0, 1);
        x.put(0, 2, 2);
        dueBoolean("get(3, 0, 0)", true, () -> x.get(3, 0, 0));
        dueRegister(x, 3, 4, 0, 1, 2);
        dueBoolean("get(3, 0, 1)", false, () -> x.get(3, 0, 1));
        dueRegister(x, 3, CopyHeap.NONE, 0, CopyHeap.NONE, CopyHeap.NONE);
        dueBoolean("get(3, 0, 2)", false, () -> x.get(3, 0, 2));
        dueRegister(x, 3, CopyHeap.NONE, 1073741823, CopyHeap.NONE, CopyHeap.NONE);
        int[][] rawAndKept = {{1, 1}, {-1, -1}, {3, 3}, {1073741824, -1073741824}, {-1073741825, 1073741823},
            {Integer.MIN_VALUE, 0}, {Integer.MAX_VALUE, -1}};
        for (int[] pair : rawAndKept) {
            x.raw(1, 1, pair[0]);
            dueBoolean("get(4, 1, 1) of the RAW " + pair[0], false, () -> x.get(4, 1, 1));
            dueRegister(x, 4, CopyHeap.NONE, pair[1], CopyHeap.NONE, CopyHeap.NONE);
            dueWord(x, 6, 3, pair[0]);
        }
        dueNoChange(x, "wrong calls of get", () -> getWrong(x));
        dueBoolean("get(0, 0, 0) into its own register", true, () -> x.get(0, 0, 0));
        dueRegister(x, 0, 4, 0, 1, 2);
    }

    private static void getWrong(CopyHeap x) {
        for (int register : NO_REGISTERS) {
            dueThrow("get to no register", ARGUMENT, () -> x.get(register, 0, 0));
            dueThrow("get to no register from a number", ARGUMENT, () -> x.get(register, 2, 0));
            dueThrow("get of no register", ARGUMENT, () -> x.get(0, register, 0));
        }
        dueThrow("get of a number", STATE, () -> x.get(0, 2, 0));
        dueThrow("get of a number, no field", STATE, () -> x.get(0, 2, 9));
        for (int k : new int[] {-1, 3, Integer.MIN_VALUE, Integer.MAX_VALUE}) {
            dueThrow("get of no field of a PLAIN object", INDEX, () -> x.get(2, 0, k));
            dueThrow("get of no field of a RAW object", INDEX, () -> x.get(2, 1, k));
        }
    }

    private static void collectOrdinary() {
        CopyHeap x = new CopyHeap(0);
        due("collect() of nothing", 0, x::collect);
        dueCounts(x, 16, 0, 1, 0, 0);
        x.make(0, 0, 1);
        x.make(1, 1, 2);
        x.raw(1, 0, 1);
        x.raw(1, 1, 3);
        x.put(0, 0, 1);
        x.make(2, 0, 3);
        x.number(2, 12);
        x.copy(7, 0);
        x.number(0, 0);
        x.number(1, 0);
        due("collect()", 5, x::collect);
        dueCounts(x, 16, 5, 2, 5, 2);
        dueRegister(x, 7, 0, 0, 0, 1);
        dueRegister(x, 2, CopyHeap.NONE, 12, CopyHeap.NONE, CopyHeap.NONE);
        dueWord(x, 0, 0, 2);
        dueWord(x, 1, 2, 2);
        dueWord(x, 2, 0, 5);
        dueWord(x, 3, 3, 1);
        dueWord(x, 4, 3, 3);
        due("collect() again", 5, x::collect);
        dueCounts(x, 16, 5, 3, 10, 2);
        x.number(7, 0);
        due("collect() of garbage alone", 0, x::collect);
        dueCounts(x, 16, 0, 4, 10, 0);
        dueThrow("look(0, 1) behind it", INDEX, () -> x.look(0, 1));
    }

    /** A tree whose breadth first order differs from depth first and from the order of making. */
    private static void collectBreadthFirst() {
        CopyHeap x = new CopyHeap(100);
        for (int node = 6; node >= 0; node--) {
            x.make(node, 0, 3);
            x.number(7, 100 + node);
            x.put(node, 2, 7);
        }
        for (int node = 0; node < 3; node++) {
            x.put(node, 0, 2 * node + 1);
            x.put(node, 1, 2 * node + 2);
        }
        for (int register = 1; register < 8; register++) {
            x.number(register, 0);
        }
        due("collect() of the tree", 28, x::collect);
        for (int node = 0; node < 7; node++) {
            boolean leaf = node >= 3;
            dueWord(x, 4 * node, 0, 6);
            dueWord(x, 4 * node + 1, leaf ? 1 : 2, leaf ? 0 : 4 * (2 * node + 1));
            dueWord(x, 4 * node + 2, leaf ? 1 : 2, leaf ? 0 : 4 * (2 * node + 2));
            dueWord(x, 4 * node + 3, 1, 100 + node);
        }
    }

    private static void collectRegisterOrderAndSharing() {
        CopyHeap x = new CopyHeap(0);
        x.make(5, 0, 1);
        x.make(1, 0, 2);
        x.make(3, 1, 0);
        x.put(1, 1, 5);
        x.put(5, 0, 5);
        x.copy(6, 1);
        x.put(1, 0, 3);
        due("collect()", 6, x::collect);
        dueRegister(x, 1, 0, 0, 0, 2);
        dueRegister(x, 3, 3, 0, 1, 0);
        dueRegister(x, 5, 4, 0, 0, 1);
        dueRegister(x, 6, 0, 0, 0, 2);
        dueWord(x, 1, 2, 3);
        dueWord(x, 2, 2, 4);
        dueWord(x, 5, 2, 4);
        dueCounts(x, 16, 6, 1, 6, 3);
    }

    private static void collectFullHalf() {
        CopyHeap x = new CopyHeap(-1);
        int made = 0;
        x.make(0, 0, 200);
        for (int k = 0; k < 9; k++) {
            x.make(1, k % 2, 200);
            x.put(0, k, 1);
            made++;
        }
        x.make(2, 0, 52);
        dueCounts(x, 2063, 201 * (made + 1) + 53, 0, 0, made + 2);
        due("collect() of a full half", 2063, x::collect);
        dueCounts(x, 2063, 2063, 1, 2063, 11);
        dueRegister(x, 1, 201, 0, 0, 200);
        dueRegister(x, 2, 402, 0, 0, 52);
        dueWord(x, 1, 2, 455);
        dueWord(x, 9, 2, 201);
        dueWord(x, 8, 2, 455 + 7 * 201);
        dueThrow("make(3, 1, 0) of a full half", STATE, () -> x.make(3, 1, 0));
        dueCounts(x, 2063, 2063, 2, 4126, 11);
    }

    private static void about() {
        CopyHeap x = new CopyHeap(0);
        x.make(6, 1, 4);
        x.make(2, 0, 3);
        x.number(1, -77);
        dueRegister(x, 6, 0, 0, 1, 4);
        dueRegister(x, 2, 5, 0, 0, 3);
        dueRegister(x, 1, CopyHeap.NONE, -77, CopyHeap.NONE, CopyHeap.NONE);
        dueNoChange(x, "wrong calls of about", () -> aboutWrong(x));
    }

    private static void aboutWrong(CopyHeap x) {
        for (int what : new int[] {-1, 4, Integer.MIN_VALUE, Integer.MAX_VALUE}) {
            dueThrow("about of another what, a reference", INDEX, () -> x.about(6, what));
            dueThrow("about of another what, a number", INDEX, () -> x.about(1, what));
            for (int register : NO_REGISTERS) {
                dueThrow("about of no register and another what", ARGUMENT, () -> x.about(register, what));
                dueThrow("about of no register", ARGUMENT, () -> x.about(register, 0));
            }
        }
    }

    private static void look() {
        CopyHeap x = new CopyHeap(2000);
        x.make(0, 1, 200);
        x.make(1, 0, 200);
        x.make(2, 0, 0);
        x.make(3, 1, 0);
        x.make(4, 0, 2);
        x.number(5, -9);
        x.put(4, 0, 5);
        x.put(4, 1, 3);
        x.raw(0, 199, 401);
        dueWord(x, 0, 0, 401);
        dueWord(x, 199, 3, 0);
        dueWord(x, 200, 3, 401);
        dueWord(x, 201, 0, 400);
        dueWord(x, 401, 1, 0);
        dueWord(x, 402, 0, 0);
        dueWord(x, 403, 0, 1);
        dueWord(x, 404, 0, 4);
        dueWord(x, 405, 1, -9);
        dueWord(x, 406, 2, 403);
        for (int k : new int[] {-1, 407, 2015, 2016, 2017, Integer.MIN_VALUE, Integer.MAX_VALUE}) {
            dueThrow("look at no word", INDEX, () -> x.look(k, 0));
            dueThrow("look at no word", INDEX, () -> x.look(k, 1));
        }
        for (int what : new int[] {-1, 2, Integer.MIN_VALUE, Integer.MAX_VALUE}) {
            dueThrow("look for another what", INDEX, () -> x.look(0, what));
        }
    }

    private static void count() {
        CopyHeap x = new CopyHeap(4);
        dueCounts(x, 20, 0, 0, 0, 0);
        x.make(0, 0, 3);
        x.make(0, 1, 4);
        dueCounts(x, 20, 9, 0, 0, 2);
        x.collect();
        dueCounts(x, 20, 5, 1, 5, 1);
        x.make(1, 0, 14);
        dueCounts(x, 20, 20, 1, 5, 2);
        x.number(0, 0);
        x.make(2, 0, 0);
        dueCounts(x, 20, 16, 2, 20, 2);
        dueNoChange(x, "count of another what", () -> {
            for (int what : new int[] {-1, 5, Integer.MIN_VALUE, Integer.MAX_VALUE}) {
                dueThrow("count of another what", INDEX, () -> x.count(what));
            }
        });
    }

    public static void main(String[] args) {
        newObject();
        makeOrdinary();
        makeMostFields();
        makeWrong();
        makeWithoutRoom();
        makeBehindCollection();
        makeClearsFields();
        number();
        copy();
        put();
        raw();
        get();
        collectOrdinary();
        collectBreadthFirst();
        collectRegisterOrderAndSharing();
        collectFullHalf();
        about();
        look();
        count();
        System.out.println(wrong == 0 ? "all answers are as due" : wrong + " answers are not as due");
        if (wrong != 0) {
            System.exit(1);
        }
    }
}
