import java.util.ArrayDeque;
import java.util.ArrayList;
import java.util.List;

/**
 * Long mixed runs of calls against a second heap that is written quite differently: its objects are
 * Java objects in a list, and a place is worked out by adding up the sizes ahead of it.
 */
public final class ModelTest {
    /** The document promises nothing behind an object's 512th call; looking at the state counts as well. */
    private static final int MOST_CALLS = 512;
    private static final int RUNS = 3000;

    private static final class Thing {
        final int kind;
        final Object[] fields;

        Thing(int kind, int fields) {
            this.kind = kind;
            this.fields = new Object[fields];
            java.util.Arrays.fill(this.fields, 0);
        }
    }

    /** Answers are numbers, or texts that name the exception. */
    private static final class Model {
        final int size;
        final Object[] registers = {0, 0, 0, 0, 0, 0, 0, 0};
        List<Thing> things = new ArrayList<>();
        int collections = 0;
        int moved = 0;

        Model(int words) {
            size = 16 + Math.floorMod(words, 2048);
        }

        static boolean isRegister(int register) {
            return 0 <= register && register <= 7;
        }

        static Integer wrap(int n) {
            return (int) (Math.floorMod(n + (1L << 30), 1L << 31) - (1L << 30));
        }

        int used() {
            return placeOf(null);
        }

        int placeOf(Object thing) {
            int place = 0;
            for (Thing each : things) {
                if (each == thing) {
                    return place;
                }
                place += 1 + each.fields.length;
            }
            return place;
        }

        int gather() {
            List<Thing> order = new ArrayList<>();
            ArrayDeque<Thing> queue = new ArrayDeque<>();
            for (Object value : registers) {
                reach(value, order, queue);
            }
            while (!queue.isEmpty()) {
                for (Object value : queue.remove().fields) {
                    reach(value, order, queue);
                }
            }
            things = order;
            collections++;
            moved += used();
            return used();
        }

        static void reach(Object value, List<Thing> order, ArrayDeque<Thing> queue) {
            if (value instanceof Thing thing && !order.contains(thing)) {
                order.add(thing);
                queue.add(thing);
            }
        }

        Object make(int register, int kind, int fields) {
            if (!isRegister(register) || (kind != 0 && kind != 1) || fields < 0 || fields > 200) {
                return "IllegalArgumentException";
            }
            if (used() + 1 + fields > size) {
                gather();
            }
            if (used() + 1 + fields > size) {
                return "IllegalStateException";
            }
            Thing thing = new Thing(kind, fields);
            things.add(thing);
            registers[register] = thing;
            return placeOf(thing);
        }

        Object number(int register, int n) {
            if (!isRegister(register)) {
                return "IllegalArgumentException";
            }
            registers[register] = wrap(n);
            return wrap(n);
        }

        Object copy(int register, int other) {
            if (!isRegister(register) || !isRegister(other)) {
                return "IllegalArgumentException";
            }
            registers[register] = registers[other];
            return registers[register] instanceof Thing ? 1 : 0;
        }

        Object put(int register, int k, int other) {
            if (!isRegister(register) || !isRegister(other)) {
                return "IllegalArgumentException";
            }
            if (!(registers[register] instanceof Thing thing)
                || (thing.kind == 1 && registers[other] instanceof Thing)) {
                return "IllegalStateException";
            }
            if (k < 0 || k >= thing.fields.length) {
                return "IndexOutOfBoundsException";
            }
            thing.fields[k] = registers[other];
            return 0;
        }

        Object raw(int register, int k, int n) {
            if (!isRegister(register)) {
                return "IllegalArgumentException";
            }
            if (!(registers[register] instanceof Thing thing) || thing.kind == 0) {
                return "IllegalStateException";
            }
            if (k < 0 || k >= thing.fields.length) {
                return "IndexOutOfBoundsException";
            }
            Object before = thing.fields[k];
            thing.fields[k] = n;
            return before;
        }

        Object get(int register, int other, int k) {
            if (!isRegister(register) || !isRegister(other)) {
                return "IllegalArgumentException";
            }
            if (!(registers[other] instanceof Thing thing)) {
                return "IllegalStateException";
            }
            if (k < 0 || k >= thing.fields.length) {
                return "IndexOutOfBoundsException";
            }
            Object value = thing.fields[k];
            registers[register] = value instanceof Integer n ? wrap(n) : value;
            return value instanceof Thing ? 1 : 0;
        }

        /** All that about, look and count can tell, in a fixed order. */
        List<Object> all() {
            List<Object> told = new ArrayList<>(List.of(size, used(), collections, moved, things.size()));
            for (Object value : registers) {
                if (value instanceof Thing thing) {
                    told.addAll(List.of(placeOf(thing), 0, thing.kind, thing.fields.length));
                } else {
                    told.addAll(List.of(-1, value, -1, -1));
                }
            }
            for (Thing thing : things) {
                told.addAll(List.of(0, 2 * thing.fields.length + thing.kind));
                for (Object value : thing.fields) {
                    int sort = thing.kind == 1 ? 3 : value instanceof Thing ? 2 : 1;
                    told.addAll(List.of(sort, value instanceof Thing ? placeOf(value) : value));
                }
            }
            return told;
        }
    }

    private interface Call {
        int answer();
    }

    private static long seed = 1;
    private static int wrong = 0;

    /** The same numbers in every run of the test. */
    private static int upTo(int bound) {
        seed = seed * 6364136223846793005L + 1442695040888963407L;
        return (int) ((seed >>> 33) % bound);
    }

    private static int anyInt() {
        switch (upTo(4)) {
            case 0: return upTo(7) - 3;
            case 1: return (1 << 30) - 3 + upTo(6);
            case 2: return -(1 << 30) - 3 + upTo(6);
            default: return (upTo(1 << 16) << 16) | upTo(1 << 16);
        }
    }

    /** Mostly one of the eight. */
    private static int anyRegister() {
        return upTo(60) == 0 ? (upTo(2) == 0 ? -1 : 8) : upTo(8);
    }

    private static Object answerOf(Call call) {
        try {
            return call.answer();
        } catch (RuntimeException e) {
            return e.getClass().getSimpleName();
        }
    }

    /** What the model tells at index i of all(). */
    private static int ask(CopyHeap x, int i) {
        if (i < 5) {
            return x.count(i);
        }
        return i < 37 ? x.about((i - 5) / 4, (i - 5) % 4) : x.look((i - 37) / 2, (i - 37) % 2);
    }

    /** Compares all that can be seen, or any parts of it when there are too few calls left, and tells the calls. */
    private static int compareState(int run, CopyHeap x, Model m, int callsLeft) {
        List<Object> want = m.all();
        boolean whole = want.size() <= callsLeft;
        int asked = Math.min(want.size(), callsLeft);
        for (int n = 0; n < asked; n++) {
            int i = whole ? n : upTo(want.size());
            compare(run, "the state at " + i, answerOf(() -> ask(x, i)), want.get(i));
        }
        return asked;
    }

    private static void compare(int run, String call, Object got, Object want) {
        if (!got.equals(want)) {
            wrong++;
            System.out.println("run " + run + ": " + call + " answered " + got + ", due is " + want);
        }
    }

    private static void oneCall(int run, CopyHeap x, Model m, int mostFields) {
        int a = anyRegister();
        int b = anyRegister();
        int k = upTo(mostFields + 2) - 1;
        int n = anyInt();
        String given = " with " + a + ", " + b + ", " + k + ", " + n;
        switch (upTo(20)) {
            case 0: case 1: case 2: case 3:
                int kind = upTo(80) == 0 ? 2 : upTo(4) / 3;
                compare(run, "make" + given, answerOf(() -> x.make(a, kind, k)), m.make(a, kind, k));
                break;
            case 4: case 5:
                compare(run, "number" + given, answerOf(() -> x.number(a, n)), m.number(a, n));
                break;
            case 6: case 7:
                compare(run, "copy" + given, answerOf(() -> x.copy(a, b) ? 1 : 0), m.copy(a, b));
                break;
            case 8: case 9: case 10: case 11: case 12: case 13:
                compare(run, "put" + given, answerOf(() -> {
                    x.put(a, k, b);
                    return 0;
                }), m.put(a, k, b));
                break;
            case 14: case 15:
                compare(run, "raw" + given, answerOf(() -> x.raw(a, k, n)), m.raw(a, k, n));
                break;
            case 16: case 17: case 18:
                compare(run, "get" + given, answerOf(() -> x.get(a, b, k) ? 1 : 0), m.get(a, b, k));
                break;
            default:
                compare(run, "collect", answerOf(x::collect), m.gather());
        }
    }

    private static void oneRun(int run) {
        boolean small = run % 20 != 0;
        int words = small ? upTo(1 + upTo(120)) : anyInt();
        int mostFields = small ? 1 + upTo(12) : 200;
        CopyHeap x = new CopyHeap(words);
        Model m = new Model(words);
        int left = MOST_CALLS;
        while (left > 0 && wrong < 20) {
            int calls = Math.min(left, small ? 1 + upTo(120) : 200 + upTo(200));
            for (int call = 0; call < calls; call++) {
                oneCall(run, x, m, mostFields);
            }
            left -= calls;
            left -= compareState(run, x, m, left);
        }
    }

    public static void main(String[] args) {
        for (int run = 0; run < RUNS && wrong < 20; run++) {
            oneRun(run);
        }
        System.out.println(wrong == 0 ? "all answers are as due" : wrong + " answers are not as due");
        if (wrong != 0) {
            System.exit(1);
        }
    }
}
