import java.lang.reflect.InvocationTargetException;
import java.lang.reflect.Method;
import java.util.Arrays;
import java.util.Comparator;
import java.util.Objects;
import java.util.TreeSet;

/**
 * What the tests of boundary cases share: a runner for test methods that are named after a
 * promise, and checks that keep to the 512 calls for which an object is promised to answer.
 */
final class Check {
    static final Class<? extends RuntimeException> BOUNDS = IndexOutOfBoundsException.class;
    static final Class<? extends RuntimeException> ARGUMENT = IllegalArgumentException.class;
    static final Class<? extends RuntimeException> STATE = IllegalStateException.class;

    /** Numbers outside every range of the document; the middle ones look small in 8 or 16 bits. */
    static final int[] FAR_OFF = {
        Integer.MIN_VALUE, Integer.MIN_VALUE + 1, -65536, -256, 65536, 65537, 0x40000000,
        Integer.MAX_VALUE};

    private static final String[] PROMISES = {
        "newObject", "put", "add", "include", "exclude", "delete", "merge", "mergeAll",
        "appendText", "clearText", "errorPosition", "runText", "undo", "latest", "sibling",
        "greatest", "counter", "elements", "entries", "exists", "mean", "seen", "clock",
        "relation", "conflicts", "agreement", "latestMerge", "ifMerged", "savedStates",
        "textLength"};

    private static String running = "";
    private static int wrong = 0;

    private Check() {
    }

    /** Some calls on an object. */
    interface Script {
        void on(CausalTable t);
    }

    /** One call on an object, with its answer. */
    interface Call {
        Object on(CausalTable t);
    }

    /** One call that names a replica and a row. */
    interface CellCall {
        Object on(CausalTable t, int replica, int row);
    }

    // ---- running tests

    /** Runs the methods promiseNN_name_sentence of a class; each promise given must have some. */
    static void runAll(Class<?> tests, int... promises) {
        Method[] methods = tests.getDeclaredMethods();
        Arrays.sort(methods, Comparator.comparing(Method::getName));
        TreeSet<String> missing = new TreeSet<>();
        for (int promise : promises) {
            missing.add(prefix(promise));
        }
        int count = 0;
        for (Method method : methods) {
            if (method.getName().startsWith("promise")) {
                int second = method.getName().lastIndexOf('_');
                String prefix = method.getName().substring(0, second + 1);
                running = method.getName();
                dueTrue("its name begins with a promise of this class",
                        Arrays.stream(promises).anyMatch(p -> prefix(p).equals(prefix)));
                missing.remove(prefix);
                run(method);
                count++;
            }
        }
        running = tests.getSimpleName();
        due("promises without a test", missing, new TreeSet<String>());
        System.out.println(tests.getSimpleName() + ": " + count + " tests, "
                + (wrong == 0 ? "all hold" : wrong + " answers are wrong"));
        if (wrong != 0) {
            System.exit(1);
        }
    }

    private static String prefix(int promise) {
        return "promise" + (promise < 10 ? "0" : "") + promise + "_" + PROMISES[promise - 1] + "_";
    }

    private static void run(Method method) {
        try {
            method.setAccessible(true);
            method.invoke(null);
        } catch (InvocationTargetException e) {
            tellWrong("threw " + e.getCause());
        } catch (IllegalAccessException e) {
            tellWrong("can't be run: " + e);
        }
    }

    private static void tellWrong(String what) {
        wrong++;
        System.out.println(running + ": " + what);
    }

    // ---- answers

    static void due(String call, Object got, Object want) {
        if (!Objects.equals(got, want)) {
            tellWrong(call + " answered " + got + ", due is " + want);
        }
    }

    static void dueTrue(String what, boolean holds) {
        if (!holds) {
            tellWrong(what + " does not hold");
        }
    }

    /** Both texts have the same lines; tells the first line that differs. */
    static void same(String what, String got, String want) {
        String[] gotLines = got.split("\n");
        String[] wantLines = want.split("\n");
        for (int i = 0; i < Math.max(gotLines.length, wantLines.length); i++) {
            String gotLine = i < gotLines.length ? gotLines[i] : "nothing";
            String wantLine = i < wantLines.length ? wantLines[i] : "nothing";
            if (!gotLine.equals(wantLine)) {
                tellWrong(what + ": " + gotLine + ", due is " + wantLine);
                return;
            }
        }
    }

    /** All that the queries tell of the state, in 361 calls. */
    static String state(CausalTable t) {
        StringBuilder s = new StringBuilder();
        // First, so that ifMerged can't hide that it has changed this.
        for (int part = 0; part < 4; part++) {
            line(s, "latestMerge(" + part + ")", t.latestMerge(part));
        }
        for (int r = 0; r < 4; r++) {
            s.append(replica(t, r));
            for (int other = 0; other < 4; other++) {
                if (r != other) {
                    String pair = "(" + r + ", " + other + ", ";
                    line(s, "ifMerged" + pair + "2)", t.ifMerged(r, other, 2));
                    line(s, "ifMerged" + pair + "3)", t.ifMerged(r, other, 3));
                }
            }
        }
        line(s, "agreement()", t.agreement());
        return s.toString();
    }

    /** All that the queries tell of one replica alone, in 83 calls. */
    static String replica(CausalTable t, int r) {
        StringBuilder s = new StringBuilder();
        for (int row = 0; row < 6; row++) {
            String cell = "(" + r + ", " + row;
            line(s, "latest" + cell + ")", t.latest(r, row));
            line(s, "greatest" + cell + ")", t.greatest(r, row));
            line(s, "counter" + cell + ")", t.counter(r, row));
            line(s, "elements" + cell + ")", t.elements(r, row));
            for (int i = 0; i < 4; i++) {
                line(s, "sibling" + cell + ", " + i + ")", t.sibling(r, row, i));
            }
            for (int column = 0; column < 5; column++) {
                line(s, "entries" + cell + ", " + column + ")", t.entries(r, row, column));
            }
        }
        for (int other = 0; other < 4; other++) {
            line(s, "seen(" + r + ", " + other + ")", t.seen(r, other));
        }
        line(s, "clock(" + r + ")", t.clock(r));
        return s.toString();
    }

    /** All that the queries tell, the saved states and the text too, in 364 calls. */
    static String all(CausalTable t) {
        StringBuilder s = new StringBuilder();
        line(s, "savedStates()", t.savedStates());
        line(s, "textLength()", t.textLength());
        line(s, "errorPosition()", t.errorPosition());
        return s.append(state(t)).toString();
    }

    private static void line(StringBuilder s, String call, Object answer) {
        s.append(call).append(" answered ").append(answer).append('\n');
    }

    // ---- objects

    static CausalTable made(Script before) {
        CausalTable t = new CausalTable();
        before.on(t);
        return t;
    }

    static void nothing(CausalTable t) {
    }

    /** Entries in each column, knowledge that differs, six saved states and a valid text. */
    static void used(CausalTable t) {
        t.put(0, 0, CausalTable.LATEST, 7);
        t.put(3, 5, CausalTable.SIBLINGS, 9);
        t.put(1, 5, CausalTable.SIBLINGS, 4);
        t.put(2, 0, CausalTable.GREATEST, 300);
        t.add(0, 5, -3);
        t.include(3, 0, 15);
        t.include(1, 0, 0);
        t.merge(3, 0);
        t.merge(1, 0);
        t.exclude(0, 0, 0);
        write(t, "v00,5;m01");
    }

    /** All cells of a row hold at all replicas what the four replicas have put there: 81 calls. */
    static void fillRow(CausalTable t, int row) {
        for (int r = 0; r < 4; r++) {
            makeRow(t, r, row);
        }
        t.mergeAll();
    }

    /** The 20 entries that one replica can make in a row; the values are r + 1 and all elements. */
    static void makeRow(CausalTable t, int r, int row) {
        t.put(r, row, CausalTable.LATEST, r + 1);
        t.put(r, row, CausalTable.SIBLINGS, r + 1);
        t.put(r, row, CausalTable.GREATEST, r + 1);
        t.add(r, row, r + 1);
        for (int element = 0; element < 16; element++) {
            t.include(r, row, element);
        }
    }

    static void write(CausalTable t, String text) {
        t.clearText();
        for (int i = 0; i < text.length(); i++) {
            t.appendText(text.charAt(i));
        }
    }

    static CausalTable written(String text) {
        return made(t -> write(t, text));
    }

    /** The object after a text was run on a new one. */
    static CausalTable ran(String text) {
        CausalTable t = written(text);
        t.runText();
        return t;
    }

    // ---- calls that are refused, that change nothing, that can be undone

    /** The call throws just this exception and changes nothing, on a used and on a new object. */
    static void refuses(Class<?> want, String call, Call asked) {
        refusesAfter(Check::used, want, call, asked);
        refusesAfter(Check::nothing, want, call, asked);
    }

    /** The call throws just this exception after a script, and changes nothing. */
    static void refusesAfter(Script before, Class<?> want, String call, Call asked) {
        due(call, thrown(made(before), asked), want);
        changesNothingAfter(before, call, asked);
    }

    /** Refused are the replicas and rows that do not exist, each beside one that does. */
    static void refusesReplica(String call, int replica, CellCall asked) {
        refuses(BOUNDS, call + " of replica " + replica, t -> asked.on(t, replica, 0));
        refuses(BOUNDS, call + " of replica " + replica, t -> asked.on(t, replica, 5));
    }

    static void refusesRow(String call, int row, CellCall asked) {
        refuses(BOUNDS, call + " of row " + row, t -> asked.on(t, 0, row));
        refuses(BOUNDS, call + " of row " + row, t -> asked.on(t, 3, row));
    }

    static void refusesFarOff(String call, CellCall asked) {
        for (int far : FAR_OFF) {
            refusesReplica(call, far, asked);
            refusesRow(call, far, asked);
            refuses(BOUNDS, call + " of " + far + " twice", t -> asked.on(t, far, far));
        }
    }

    static Class<?> thrown(CausalTable t, Call asked) {
        try {
            asked.on(t);
            return null;
        } catch (RuntimeException e) {
            return e.getClass();
        }
    }

    static void changesNothing(String call, Call asked) {
        changesNothingAfter(Check::used, call, asked);
        changesNothingAfter(Check::nothing, call, asked);
    }

    /** With the call or without it: the same answers, the same saved states, the same text. */
    static void changesNothingAfter(Script before, String call, Call asked) {
        int saved = made(before).savedStates();
        for (int undone = 0; undone <= saved; undone++) {
            CausalTable t = made(before);
            thrown(t, asked);
            CausalTable twin = made(before);
            for (int i = 0; i < undone; i++) {
                t.undo();
                twin.undo();
            }
            same(call + " and " + undone + " undone: changes nothing", all(t), all(twin));
        }
        CausalTable t = made(before);
        thrown(t, asked);
        CausalTable twin = made(before);
        if (twin.errorPosition() == CausalTable.NONE) {
            twin.runText();
            due("runText() after " + call + " throws", thrown(t, CausalTable::runText), null);
            same(call + " leaves the text as it was", state(t), state(twin));
        }
    }

    /** The call is saved as one: a new object and a used one are as before when it is undone. */
    static void undoable(String call, Call asked) {
        undoableAfter(Check::used, call, asked);
        undoableAfter(Check::nothing, call, asked);
    }

    static void undoableAfter(Script before, String call, Call asked) {
        CausalTable t = made(before);
        int saved = t.savedStates();
        asked.on(t);
        due("savedStates() after " + call, t.savedStates(), Math.min(saved + 1, 6));
        due("undo() of " + call, t.undo(), Math.min(saved, 5));
        same("after " + call + " and undo()", state(t), state(made(before)));
    }
}
