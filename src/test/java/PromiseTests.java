import java.util.function.Supplier;

/** What each promise of the document says, on ordinary inputs, at the edges and on wrong inputs. */
public final class PromiseTests {
    private static final int[] BAD_REPLICAS = {-1, 4, Integer.MIN_VALUE, Integer.MAX_VALUE};
    private static final int[] BAD_ROWS = {-1, 6, Integer.MIN_VALUE, Integer.MAX_VALUE};

    private static int wrong = 0;
    private static int promise = 0;

    public static void main(String[] args) {
        promise = 1;
        newObject();
        promise = 2;
        put();
        promise = 3;
        add();
        promise = 4;
        include();
        promise = 5;
        exclude();
        promise = 6;
        delete();
        promise = 7;
        merge();
        mergeKeepsWhatNobodyReplaced();
        promise = 8;
        mergeAll();
        promise = 9;
        appendText();
        promise = 10;
        clearText();
        promise = 11;
        errorPosition();
        errorPositionOfNumbers();
        promise = 12;
        runText();
        runTextOfEachCommand();
        promise = 13;
        undo();
        stampsAreRestored();
        promise = 14;
        latest();
        cellsDoNotMix();
        promise = 15;
        sibling();
        promise = 16;
        greatest();
        promise = 17;
        counter();
        promise = 18;
        elements();
        promise = 19;
        entries();
        promise = 20;
        exists();
        promise = 21;
        mean();
        promise = 22;
        seen();
        promise = 23;
        clock();
        promise = 24;
        relation();
        promise = 25;
        conflicts();
        promise = 26;
        agreement();
        promise = 27;
        latestMerge();
        promise = 28;
        ifMerged();
        promise = 29;
        savedStates();
        promise = 30;
        textLength();
        System.out.println(wrong == 0 ? "all promises hold" : wrong + " answers are wrong");
        if (wrong != 0) {
            System.exit(1);
        }
    }

    // ---- helpers

    private static void due(String call, long got, long want) {
        if (got != want) {
            wrong++;
            System.out.println("promise " + promise + ": " + call + " answered " + got
                    + ", due is " + want);
        }
    }

    private static void dueTrue(String what, boolean holds) {
        if (!holds) {
            wrong++;
            System.out.println("promise " + promise + ": " + what + " does not hold");
        }
    }

    /** A call that must throw exactly this exception; that it changes nothing is Check's to ask. */
    private static void dueThrow(Class<?> want, String call, Supplier<?> run) {
        Class<?> got = null;
        try {
            run.get();
        } catch (RuntimeException e) {
            got = e.getClass();
        }
        if (got != want) {
            wrong++;
            System.out.println("promise " + promise + ": " + call + " threw " + got
                    + ", due is " + want);
        }
    }

    private static void outOfBounds(String call, Supplier<?> run) {
        dueThrow(IndexOutOfBoundsException.class, call, run);
    }

    private static void illegalArgument(String call, Supplier<?> run) {
        dueThrow(IllegalArgumentException.class, call, run);
    }

    private static void illegalState(String call, Supplier<?> run) {
        dueThrow(IllegalStateException.class, call, run);
    }

    private static void dueError(String text, int want) {
        CausalTable t = new CausalTable();
        Check.write(t, text);
        due("errorPosition() of \"" + text + "\"", t.errorPosition(), want);
        due("errorPosition() again", t.errorPosition(), want);
        if (want == CausalTable.NONE) {
            t.runText();
        } else {
            illegalState("runText() of \"" + text + "\"", t::runText);
        }
    }

    /** Four replicas that have put 5, 5, 3 and 9 into SIBLINGS of row 0 alone, all merged. */
    private static CausalTable fourSiblings() {
        CausalTable t = new CausalTable();
        t.put(0, 0, CausalTable.SIBLINGS, 5);
        t.put(1, 0, CausalTable.SIBLINGS, 5);
        t.put(2, 0, CausalTable.SIBLINGS, 3);
        t.put(3, 0, CausalTable.SIBLINGS, 9);
        t.mergeAll();
        return t;
    }

    /** The query of a replica and a row throws where there is no such replica or row. */
    private interface CellQuery {
        Object of(CausalTable t, int replica, int row);
    }

    private static void badCells(CausalTable t, String call, CellQuery query) {
        for (int bad : BAD_REPLICAS) {
            outOfBounds(call + " of replica " + bad, () -> query.of(t, bad, 0));
            outOfBounds(call + " of row " + bad, () -> query.of(t, 3, bad == 4 ? 6 : bad));
        }
    }

    // ---- the promises

    private static void newObject() {
        CausalTable t = new CausalTable();
        for (int r = 0; r < 4; r++) {
            for (int row = 0; row < 6; row++) {
                due("latest", t.latest(r, row), -1);
                due("sibling", t.sibling(r, row, 0), -1);
                due("greatest", t.greatest(r, row), -1);
                due("counter", t.counter(r, row), 0);
                due("elements", t.elements(r, row), 0);
                dueTrue("not exists", !t.exists(r, row));
                dueTrue("mean 0.0f", t.mean(r, row) == 0.0f);
                for (int column = 0; column < 5; column++) {
                    due("entries", t.entries(r, row, column), 0);
                }
            }
            for (int other = 0; other < 4; other++) {
                due("seen", t.seen(r, other), 0);
                due("relation", t.relation(r, other), CausalTable.EQUAL);
            }
            due("clock", t.clock(r), 0);
            due("conflicts", t.conflicts(r), 0);
            due("latestMerge", t.latestMerge(r), -1);
        }
        dueTrue("agreement 1.0", t.agreement() == 1.0);
        due("savedStates", t.savedStates(), 0);
        due("textLength", t.textLength(), 0);
        due("errorPosition", t.errorPosition(), 0);
        CausalTable other = new CausalTable();
        t.put(0, 0, 0, 1);
        due("latest of another object", other.latest(0, 0), -1);
    }

    private static void put() {
        CausalTable t = new CausalTable();
        for (int column = 0; column < 3; column++) {
            due("put", t.put(1, 2, column, 7), 0);
            due("put again", t.put(1, 2, column, 7), 1);
            due("entries", t.entries(1, 2, column), 1);
            due("entries elsewhere", t.entries(0, 2, column) + t.entries(1, 1, column), 0);
        }
        due("clock", t.clock(1), 6);
        due("seen", t.seen(1, 1), 6);
        due("clock of another", t.clock(0), 0);
        due("savedStates", t.savedStates(), 6);
        due("put 0", t.put(3, 5, 0, 0), 0);
        due("latest", t.latest(3, 5), 0);
        due("put 999", t.put(3, 5, 0, 999), 1);
        due("latest", t.latest(3, 5), 999);
        due("put over four", fourSiblings().put(2, 0, 1, 1), 4);
        due("put beside four", fourSiblings().put(2, 0, 0, 1), 0);
        for (int bad : BAD_REPLICAS) {
            outOfBounds("put replica", () -> t.put(bad, 0, 0, 1));
            outOfBounds("put replica and value", () -> t.put(bad, 0, 0, -1));
        }
        for (int bad : BAD_ROWS) {
            outOfBounds("put row", () -> t.put(0, bad, 0, 1));
            outOfBounds("put row and value", () -> t.put(0, bad, 0, 1000));
        }
        for (int bad : new int[] {-1, 3, 4, 5, Integer.MAX_VALUE, Integer.MIN_VALUE}) {
            outOfBounds("put column", () -> t.put(0, 0, bad, 1));
            outOfBounds("put column and value", () -> t.put(0, 0, bad, 1000));
        }
        for (int bad : new int[] {-1, 1000, Integer.MAX_VALUE, Integer.MIN_VALUE}) {
            illegalArgument("put value", () -> t.put(0, 0, 0, bad));
        }
    }

    private static void add() {
        CausalTable t = new CausalTable();
        due("add", t.add(0, 2, 5), 5);
        due("add", t.add(0, 2, -9), -4);
        due("entries", t.entries(0, 2, 3), 1);
        due("add", t.add(1, 2, 99), 99);
        due("merge", t.merge(0, 1), 1);
        due("add tells the cell", t.add(1, 2, 1), 96);
        due("entries", t.entries(1, 2, 3), 2);
        due("add", t.add(1, 2, -99), -3);
        due("clock", t.clock(1), 4);
        due("seen", t.seen(1, 1), 3);
        t.delete(1, 2);
        due("add after delete", t.add(1, 2, 4), 4);
        t.undo();
        t.undo();
        due("counter after undo", t.counter(1, 2), -3);
        for (int bad : BAD_REPLICAS) {
            outOfBounds("add replica", () -> t.add(bad, 0, 1));
            outOfBounds("add replica and amount", () -> t.add(bad, 0, 0));
        }
        for (int bad : BAD_ROWS) {
            outOfBounds("add row", () -> t.add(0, bad, 1));
            outOfBounds("add row and amount", () -> t.add(0, bad, 100));
        }
        for (int bad : new int[] {0, 100, -100, Integer.MAX_VALUE, Integer.MIN_VALUE}) {
            illegalArgument("add amount", () -> t.add(0, 0, bad));
        }
    }

    private static void include() {
        CausalTable t = new CausalTable();
        due("include", t.include(0, 1, 15), 0);
        due("include again", t.include(0, 1, 15), 1);
        due("include another", t.include(0, 1, 0), 0);
        due("elements", t.elements(0, 1), 0x8001);
        due("entries", t.entries(0, 1, 4), 2);
        t.include(1, 1, 15);
        t.include(2, 1, 15);
        t.mergeAll();
        due("entries", t.entries(3, 1, 4), 4);
        due("include over three", t.include(3, 1, 15), 3);
        due("entries", t.entries(3, 1, 4), 2);
        due("clock", t.clock(3), 4);
        due("seen", t.seen(3, 3), 1);
        due("undo", t.undo(), 5);
        due("entries after undo", t.entries(3, 1, 4), 4);
        badElements("include", t::include);
    }

    private static void exclude() {
        CausalTable t = new CausalTable();
        due("exclude of nothing", t.exclude(0, 1, 3), 0);
        due("clock", t.clock(0), 1);
        due("seen", t.seen(0, 0), 1);
        due("savedStates", t.savedStates(), 1);
        t.include(0, 1, 3);
        t.include(1, 1, 3);
        t.include(1, 1, 4);
        t.merge(0, 1);
        due("exclude of two", t.exclude(1, 1, 3), 2);
        due("elements", t.elements(1, 1), 16);
        due("merge of what was excluded", t.merge(0, 1), 0);
        due("elements", t.elements(1, 1), 16);
        t.undo();
        t.undo();
        due("elements after undo", t.elements(1, 1), 24);
        badElements("exclude", t::exclude);
    }

    private interface ElementCall {
        Object of(int replica, int row, int element);
    }

    private static void badElements(String name, ElementCall call) {
        for (int bad : BAD_REPLICAS) {
            outOfBounds(name + " replica", () -> call.of(bad, 0, 1));
            outOfBounds(name + " replica and element", () -> call.of(bad, 0, 16));
        }
        for (int bad : BAD_ROWS) {
            outOfBounds(name + " row", () -> call.of(0, bad, 1));
            outOfBounds(name + " row and element", () -> call.of(0, bad, -1));
        }
        for (int bad : new int[] {-1, 16, Integer.MAX_VALUE, Integer.MIN_VALUE}) {
            illegalArgument(name + " element", () -> call.of(0, 0, bad));
        }
    }

    private static void delete() {
        CausalTable t = new CausalTable();
        due("delete of nothing", t.delete(2, 4), 0);
        due("clock", t.clock(2), 1);
        due("seen", t.seen(2, 2), 1);
        for (int column = 0; column < 3; column++) {
            t.put(2, 4, column, 8);
            t.put(2, 3, column, 8);
            t.put(1, 4, column, 8);
        }
        t.add(2, 4, 8);
        t.include(2, 4, 0);
        t.include(2, 4, 15);
        t.merge(1, 2);
        due("delete", t.delete(2, 4), 9);
        dueTrue("the row is gone", !t.exists(2, 4));
        dueTrue("another row stays", t.exists(2, 3));
        dueTrue("another replica's row stays", t.exists(1, 4));
        due("merge of what was deleted", t.merge(1, 2), 0);
        due("merge of the deletion", t.merge(2, 1), 6);
        dueTrue("the row is gone there too", !t.exists(1, 4));
        t.undo();
        t.undo();
        t.undo();
        dueTrue("the row is back", t.exists(2, 4));
        badCells(t, "delete", CausalTable::delete);
    }

    private static void merge() {
        CausalTable t = new CausalTable();
        t.put(0, 1, 2, 10);
        due("put", t.put(0, 1, 2, 4), 1);
        t.put(1, 1, 2, 7);
        due("merge", t.merge(0, 1), 1);
        due("entries", t.entries(1, 1, 2), 2);
        due("merge again", t.merge(0, 1), 0);
        due("savedStates", t.savedStates(), 5);
        due("latestMerge from", t.latestMerge(0), 0);
        due("latestMerge to", t.latestMerge(1), 1);
        due("from does not change", t.entries(0, 1, 2), 1);
        due("seen of from", t.seen(0, 1), 0);
        due("put over both", t.put(1, 1, 2, 8), 2);
        due("merge adds and removes", t.merge(1, 0), 2);
        due("added", t.latestMerge(2), 1);
        due("removed", t.latestMerge(3), 1);
        t.merge(0, 2);
        t.put(0, 0, 0, 1);
        t.include(3, 5, 15);
        t.merge(3, 2);
        t.merge(0, 2);
        t.merge(2, 3);
        t.delete(3, 0);
        t.delete(3, 5);
        due("merge removes from the first cell to the last", t.merge(3, 2), 2);
        due("removed", t.latestMerge(3), 2);
        for (int bad : BAD_REPLICAS) {
            outOfBounds("merge from", () -> t.merge(bad, 0));
            outOfBounds("merge to", () -> t.merge(0, bad));
            outOfBounds("merge of the same", () -> t.merge(bad, bad));
        }
        for (int same = 0; same < 4; same++) {
            int replica = same;
            illegalArgument("merge of the same", () -> t.merge(replica, replica));
        }
    }

    private static void mergeKeepsWhatNobodyReplaced() {
        CausalTable t = new CausalTable();
        t.include(0, 0, 1);
        t.merge(0, 1);
        t.exclude(1, 0, 1);
        t.include(0, 0, 1);
        due("merge of what was included anew", t.merge(0, 1), 1);
        due("elements", t.elements(1, 0), 2);
        t.exclude(1, 0, 1);
        due("merge of the exclusion", t.merge(1, 0), 1);
        due("elements", t.elements(0, 0), 0);
        // Only the other replica's newer entry replaces this one's older entry of the same maker.
        t.add(2, 5, 1);
        t.merge(2, 3);
        t.add(2, 5, 2);
        t.put(3, 5, 0, 1);
        t.put(3, 5, 0, 2);
        due("merge", t.merge(2, 3), 2);
        due("counter", t.counter(3, 5), 3);
        due("the latest of the clocks", t.clock(3), 3);
        t.merge(3, 2);
        due("the latest of the clocks", t.clock(2), 3);
        due("seen", t.seen(2, 3), 2);
        due("seen", t.seen(2, 2), 2);
    }

    private static void mergeAll() {
        CausalTable t = new CausalTable();
        due("mergeAll of nothing", t.mergeAll(), 0);
        due("savedStates", t.savedStates(), 1);
        due("latestMerge", t.latestMerge(0), 3);
        due("latestMerge", t.latestMerge(1), 0);
        t.put(2, 0, 0, 1);
        due("mergeAll of 2's", t.mergeAll(), 3);
        due("savedStates", t.savedStates(), 3);
        dueTrue("agreement", t.agreement() == 1.0);
        t.put(0, 0, 0, 1);
        due("mergeAll of 0's", t.mergeAll(), 3);
        t.put(3, 0, 0, 1);
        due("mergeAll of 3's", t.mergeAll(), 3);
        t.delete(1, 0);
        due("mergeAll of 1's deletion", t.mergeAll(), 3);
        t.put(0, 0, 1, 5);
        t.put(1, 0, 1, 5);
        t.put(2, 0, 1, 3);
        t.put(3, 0, 1, 9);
        due("mergeAll of all", t.mergeAll(), 6);
        due("added by the last", t.latestMerge(2), 3);
        for (int r = 1; r < 4; r++) {
            due("relation", t.relation(0, r), CausalTable.EQUAL);
        }
        t.undo();
        for (int r = 0; r < 4; r++) {
            due("one undo takes all merges back", t.entries(r, 0, 1), 1);
        }
    }

    private static void appendText() {
        CausalTable t = new CausalTable();
        due("appendText of the first", t.appendText(32), 1);
        due("appendText of the last", t.appendText(126), 2);
        for (int bad : new int[] {31, 127, -1, 0, 65536 + 48, Integer.MAX_VALUE, Integer.MIN_VALUE}) {
            illegalArgument("appendText", () -> t.appendText(bad));
        }
        for (int i = 3; i <= 80; i++) {
            due("appendText", t.appendText('d'), i);
        }
        illegalState("appendText to the full text", () -> t.appendText('d'));
        illegalArgument("appendText of a wrong one to the full text", () -> t.appendText(31));
        due("savedStates", t.savedStates(), 0);
    }

    private static void clearText() {
        CausalTable t = new CausalTable();
        due("clearText of nothing", t.clearText(), 0);
        Check.write(t, "d00");
        due("clearText", t.clearText(), 3);
        due("textLength", t.textLength(), 0);
        due("errorPosition", t.errorPosition(), 0);
        Check.write(t, "d");
        due("what was cleared is gone", t.errorPosition(), 1);
        for (int i = 1; i < 80; i++) {
            t.appendText('x');
        }
        due("clearText of the full text", t.clearText(), 80);
        due("appendText after it", t.appendText('x'), 1);
        due("savedStates", t.savedStates(), 0);
    }

    private static void errorPosition() {
        dueError("", 0);
        dueError(";", 0);
        dueError(" d00", 0);
        dueError("D00", 0);
        dueError("x", 0);
        dueError("0", 0);
        dueError("00,1", 0);
        dueError("00", 0);
        dueError("d00;01,1", 4);
        for (char kind : new char[] {'l', 'v', 'g', 'a', 'i', 'e'}) {
            dueError("" + kind, 1);
            dueError(kind + "4", 1);
            dueError(kind + "/", 1);
            dueError(kind + "3", 2);
            dueError(kind + "36", 2);
            dueError(kind + "35", 3);
            dueError(kind + "35;", 3);
            dueError(kind + "35,", 4);
            dueError(kind + "35,;", 4);
            dueError(kind + "35,1", -1);
            dueError(kind + "35,1,", 5);
            dueError(kind + "35,1;", 6);
            dueError(kind + "35,1;;", 6);
            dueError(kind + "35,1;" + kind + "35,9", -1);
        }
        dueError("d", 1);
        dueError("d4", 1);
        dueError("d0", 2);
        dueError("d06", 2);
        dueError("d35", -1);
        dueError("d35,", 3);
        dueError("d35;", 4);
        dueError("d35 ", 3);
        dueError("d35;d00", -1);
        dueError("d35d00", 3);
        for (int r = 0; r < 4; r++) {
            for (int s = 0; s < 6; s++) {
                dueError("m" + r + s, r == s || s > 3 ? 2 : -1);
            }
        }
        dueError("m", 1);
        dueError("m4", 1);
        dueError("m0", 2);
        dueError("m01,", 3);
        dueError("m01;m10;m11", 10);
        // The 80 characters do not bound the texts that begin with this one.
        String many = "d00;".repeat(20);
        dueError(many, 80);
        dueError(many.substring(0, 79), -1);
        dueError(many.substring(0, 76) + "l00,", 80);
        dueError(many.substring(0, 72) + "l00,9999", 79);
        due("a query alone", new CausalTable().errorPosition(), 0);
    }

    private static void errorPositionOfNumbers() {
        for (char kind : new char[] {'l', 'v', 'g'}) {
            dueError(kind + "00,0", -1);
            dueError(kind + "00,00", 5);
            dueError(kind + "00,01", 5);
            dueError(kind + "00,999", -1);
            dueError(kind + "00,1000", 7);
            dueError(kind + "00,-1", 4);
            dueError(kind + "00,100", -1);
            dueError(kind + "00,1:", 5);
            dueError(kind + "00,/", 4);
        }
        for (char kind : new char[] {'i', 'e'}) {
            dueError(kind + "00,0", -1);
            dueError(kind + "00,00", 5);
            dueError(kind + "00,15", -1);
            dueError(kind + "00,16", 5);
            dueError(kind + "00,20", 5);
            dueError(kind + "00,9", -1);
            dueError(kind + "00,100", 6);
            dueError(kind + "00,150", 6);
            dueError(kind + "00,-1", 4);
        }
        dueError("a00,0", 4);
        dueError("a00,-", 5);
        dueError("a00,-0", 5);
        dueError("a00,--1", 5);
        dueError("a00,99", -1);
        dueError("a00,-99", -1);
        dueError("a00,10", -1);
        dueError("a00,100", 6);
        dueError("a00,-100", 7);
        dueError("a00,01", 4);
        dueError("a00,-;", 5);
        dueError("a00,+1", 4);
    }

    private static void runText() {
        CausalTable t = new CausalTable();
        Check.write(t, "v00,5;v10,7;m01;a01,-3");
        due("runText", t.runText(), 4);
        due("sibling", t.sibling(1, 0, 0), 5);
        due("sibling", t.sibling(1, 0, 1), 7);
        due("counter", t.counter(0, 1), -3);
        due("savedStates", t.savedStates(), 1);
        due("textLength", t.textLength(), 22);
        due("latestMerge", t.latestMerge(2), 1);
        due("clock", t.clock(0), 2);
        due("runText again", t.runText(), 4);
        due("counter", t.counter(0, 1), -6);
        due("undo", t.undo(), 1);
        due("counter", t.counter(0, 1), -3);
        due("undo", t.undo(), 0);
        due("undone at once", t.clock(0) + t.clock(1) + t.entries(1, 0, 1), 0);
        due("the text stays", t.textLength(), 22);
        Check.write(t, "d00;".repeat(19) + "d00");
        due("runText of twenty", t.runText(), 20);
        due("clock", t.clock(0), 20);
        due("savedStates", t.savedStates(), 1);
        Check.write(t, "v00,5;v10,7;m00");
        illegalState("runText of a wrong text", t::runText);
        Check.write(t, "v00,5;");
        illegalState("runText of a text that ends too early", t::runText);
        t.clearText();
        illegalState("runText of nothing", t::runText);
    }

    private static void runTextOfEachCommand() {
        CausalTable t = new CausalTable();
        CausalTable u = new CausalTable();
        Check.write(t, "l01,7;v12,999;g23,0;a34,-99;i05,15;i15,10;e15,10;m03;m12;g23,12;g23,4");
        due("runText", t.runText(), 11);
        u.put(0, 1, 0, 7);
        u.put(1, 2, 1, 999);
        u.put(2, 3, 2, 0);
        u.add(3, 4, -99);
        u.include(0, 5, 15);
        u.include(1, 5, 10);
        u.exclude(1, 5, 10);
        u.merge(0, 3);
        u.merge(1, 2);
        u.put(2, 3, 2, 12);
        u.put(2, 3, 2, 4);
        due("greatest", t.greatest(2, 3), 12);
        due("elements", t.elements(3, 5), 1 << 15);
        Check.write(t, "d23;a34,99;a34,1;i00,1;e00,0;m30");
        due("runText", t.runText(), 6);
        u.delete(2, 3);
        u.add(3, 4, 99);
        u.add(3, 4, 1);
        u.include(0, 0, 1);
        u.exclude(0, 0, 0);
        u.merge(3, 0);
        due("counter", t.counter(0, 4), 1);
        for (int r = 0; r < 4; r++) {
            dueTrue("a text does as the calls do", Check.replica(t, r).equals(Check.replica(u, r)));
        }
    }

    private static void undo() {
        CausalTable t = new CausalTable();
        illegalState("undo of nothing", t::undo);
        for (int i = 0; i < 9; i++) {
            putAndMerge(t, i);
        }
        for (int i = 8; i >= 6; i--) {
            due("undo", t.undo(), 2 * (i - 6) + 1);
            due("undo", t.undo(), 2 * (i - 6));
        }
        illegalState("undo of a discarded state", t::undo);
        due("savedStates", t.savedStates(), 0);
        t.put(0, 0, 0, 1);
        due("undo after undo", t.undo(), 0);
        CausalTable sixth = new CausalTable();
        for (int i = 0; i < 6; i++) {
            putAndMerge(sixth, i);
        }
        dueTrue("undo restores", Check.state(t).equals(Check.state(sixth)));
        Check.write(t, "d00");
        t.runText();
        t.appendText(';');
        t.undo();
        due("the text is not undone", t.textLength(), 4);
        t.add(1, 1, 1);
        t.mergeAll();
        illegalArgument("merge", () -> t.merge(1, 1));
        due("undo: a call that threw saved nothing", t.undo(), 1);
        due("latestMerge from before", t.latestMerge(0), 1);
        t.exclude(0, 5, 5);
        due("savedStates after a call that removes nothing", t.savedStates(), 2);
    }

    private static void putAndMerge(CausalTable t, int i) {
        t.put(i % 4, i % 6, i % 3, i);
        t.merge(i % 4, (i + 1) % 4);
    }

    private static void stampsAreRestored() {
        CausalTable t = new CausalTable();
        t.put(0, 3, 0, 10);
        t.put(1, 3, 0, 20);
        // The later stamp of 0 is undone, so 1 wins again by its number alone.
        t.put(0, 3, 0, 30);
        t.undo();
        t.merge(0, 1);
        due("latest after undo", t.latest(1, 3), 20);
    }

    private static void latest() {
        CausalTable t = new CausalTable();
        t.put(3, 1, 0, 1);
        t.put(3, 1, 0, 2);
        t.put(0, 1, 0, 3);
        due("merge", t.merge(3, 0), 1);
        due("the greatest stamp", t.latest(0, 1), 2);
        t.merge(0, 3);
        due("the greatest stamp", t.latest(3, 1), 2);
        due("clock", t.clock(3), 2);
        t.put(1, 2, 0, 50);
        t.put(2, 2, 0, 40);
        t.merge(1, 2);
        t.merge(2, 1);
        due("the greatest replica among equal stamps", t.latest(1, 2), 40);
        due("the greatest replica among equal stamps", t.latest(2, 2), 40);
        t.put(1, 2, 0, 0);
        due("the value 0", t.latest(1, 2), 0);
        t.merge(1, 2);
        due("the value that replaced both", t.latest(2, 2), 0);
        due("entries", t.entries(2, 2, 0), 1);
        // The stamp is the clock, which merges; not the number of the mark.
        t.put(0, 3, 0, 10);
        t.put(0, 4, 0, 10);
        t.put(0, 4, 0, 10);
        t.merge(0, 1);
        t.put(1, 3, 1, 1);
        t.put(1, 3, 0, 20);
        t.put(2, 3, 0, 30);
        t.merge(2, 1);
        due("the clock is merged", t.latest(1, 3), 20);
        t.delete(1, 3);
        due("latest of an empty cell", t.latest(1, 3), -1);
        badCells(t, "latest", CausalTable::latest);
    }

    /** Each cell tells its own entries, whatever the cells beside it hold. */
    private static void cellsDoNotMix() {
        CausalTable t = new CausalTable();
        for (int row = 0; row < 3; row++) {
            t.put(0, row, 0, 100);
            t.put(0, row, 1, 200);
            t.put(0, row, 2, 300);
            t.add(0, row, 40);
            t.include(0, row, 15);
            t.include(0, row, 0);
        }
        due("latest", t.latest(0, 1), 100);
        due("sibling", t.sibling(0, 1, 0), 200);
        due("sibling", t.sibling(0, 1, 1), -1);
        dueTrue("mean", t.mean(0, 1) == 200.0f);
        due("greatest", t.greatest(0, 1), 300);
        due("counter", t.counter(0, 1), 40);
        due("elements", t.elements(0, 1), 0x8001);
        t.put(0, 1, 1, 900);
        t.put(0, 1, 2, 1);
        t.put(0, 0, 2, 2);
        t.add(0, 1, 99);
        t.add(0, 1, 99);
        t.add(0, 1, 99);
        due("latest", t.latest(0, 1), 100);
        due("sibling", t.sibling(0, 1, 0), 900);
        due("sibling", t.sibling(0, 1, 1), -1);
        due("greatest", t.greatest(0, 1), 300);
        due("counter", t.counter(0, 1), 337);
        t.put(0, 1, 2, 1);
        t.add(0, 1, -99);
        t.delete(0, 1);
        due("sibling of the row before", t.sibling(0, 0, 0), 200);
        due("latest of the row behind", t.latest(0, 2), 100);
        // Smaller values beside it do not count as siblings before it.
        t.put(0, 3, 1, 500);
        t.put(0, 3, 2, 1);
        due("sibling", t.sibling(0, 3, 0), 500);
        t.put(0, 4, 2, 5);
        t.add(0, 4, 99);
        due("greatest", t.greatest(0, 4), 5);
        t.add(0, 5, 5);
        t.include(0, 5, 0);
        t.include(0, 5, 7);
        due("counter", t.counter(0, 5), 5);
        t.exclude(0, 5, 0);
        due("elements", t.elements(0, 5), 1 << 7);
    }

    private static void sibling() {
        CausalTable t = fourSiblings();
        int[] want = {3, 5, 5, 9, -1, -1};
        for (int r = 0; r < 4; r++) {
            for (int i = 0; i < want.length; i++) {
                due("sibling " + i, t.sibling(r, 0, i), want[i]);
            }
        }
        due("sibling far off", t.sibling(0, 0, Integer.MAX_VALUE), -1);
        due("sibling of an empty cell", t.sibling(0, 1, 0), -1);
        t.put(1, 0, 1, 0);
        due("sibling", t.sibling(1, 0, 0), 0);
        due("sibling", t.sibling(1, 0, 1), -1);
        t.put(2, 0, 1, 8);
        due("merge", t.merge(1, 0), 5);
        due("merge", t.merge(2, 0), 1);
        due("sibling", t.sibling(0, 0, 0), 0);
        due("sibling", t.sibling(0, 0, 1), 8);
        due("sibling", t.sibling(0, 0, 2), -1);
        outOfBounds("sibling", () -> t.sibling(0, 0, -1));
        outOfBounds("sibling", () -> t.sibling(0, 0, Integer.MIN_VALUE));
        badCells(t, "sibling", (u, r, row) -> u.sibling(r, row, 0));
    }

    private static void greatest() {
        CausalTable t = new CausalTable();
        t.put(0, 1, 2, 0);
        due("greatest", t.greatest(0, 1), 0);
        t.put(0, 1, 2, 10);
        t.put(0, 1, 2, 4);
        due("the greatest stays", t.greatest(0, 1), 10);
        t.put(1, 1, 2, 7);
        t.merge(0, 1);
        due("greatest of two", t.greatest(1, 1), 10);
        t.put(1, 1, 2, 8);
        due("greatest of the removed ones", t.greatest(1, 1), 10);
        due("entries", t.entries(1, 1, 2), 1);
        t.delete(0, 1);
        due("greatest of an empty cell", t.greatest(0, 1), -1);
        t.put(0, 1, 2, 1);
        due("greatest after the deletion", t.greatest(0, 1), 1);
        t.merge(1, 0);
        due("greatest after the merge", t.greatest(0, 1), 10);
        due("entries", t.entries(0, 1, 2), 2);
        t.put(0, 1, 2, 999);
        due("greatest", t.greatest(0, 1), 999);
        badCells(t, "greatest", CausalTable::greatest);
    }

    private static void counter() {
        CausalTable t = new CausalTable();
        t.add(0, 2, 5);
        t.add(0, 2, -9);
        t.add(1, 2, 4);
        t.merge(0, 1);
        due("counter", t.counter(1, 2), 0);
        due("entries", t.entries(1, 2, 3), 2);
        t.delete(1, 2);
        t.add(0, 2, 1);
        due("merge", t.merge(0, 1), 1);
        due("counter", t.counter(1, 2), -3);
        t.add(2, 2, 50);
        t.add(3, 2, 60);
        t.mergeAll();
        due("counter", t.counter(0, 2), 107);
        due("entries", t.entries(0, 2, 3), 3);
        t.add(0, 2, 1);
        due("counter of another", t.counter(1, 2), 107);
        due("counter elsewhere", t.counter(0, 3), 0);
        badCells(t, "counter", CausalTable::counter);
    }

    private static void elements() {
        CausalTable t = new CausalTable();
        int bits = 0;
        for (int e = 0; e < 16; e++) {
            t.include(0, 5, e);
            bits |= 1 << e;
            due("elements", t.elements(0, 5), bits);
        }
        t.include(1, 5, 3);
        t.merge(0, 1);
        due("elements", t.elements(1, 5), 0xFFFF);
        due("entries", t.entries(1, 5, 4), 17);
        for (int e = 0; e < 16; e++) {
            due("exclude", t.exclude(1, 5, e), e == 3 ? 2 : 1);
            bits &= ~(1 << e);
            due("elements", t.elements(1, 5), bits);
        }
        due("elements elsewhere", t.elements(0, 4), 0);
        badCells(t, "elements", CausalTable::elements);
    }

    private static void entries() {
        CausalTable t = new CausalTable();
        Check.write(t, "l00,1;v00,1;g00,1;a00,1;i00,1;l10,1;v10,1;g10,1;a10,1;i10,1");
        t.runText();
        Check.write(t, "l20,1;v20,1;g20,1;a20,1;i20,1;l30,1;v30,1;g30,1;a30,1;i30,1;i30,15");
        t.runText();
        t.mergeAll();
        for (int r = 0; r < 4; r++) {
            for (int column = 0; column < 4; column++) {
                due("entries", t.entries(r, 0, column), 4);
                due("entries elsewhere", t.entries(r, 1, column), 0);
            }
            due("entries", t.entries(r, 0, 4), 5);
        }
        t.put(0, 0, 1, 1);
        due("entries", t.entries(0, 0, 1), 1);
        t.add(0, 0, 1);
        due("entries", t.entries(0, 0, 3), 4);
        for (int bad : new int[] {-1, 5, Integer.MAX_VALUE, Integer.MIN_VALUE}) {
            outOfBounds("entries", () -> t.entries(0, 0, bad));
        }
        badCells(t, "entries", (u, r, row) -> u.entries(r, row, 4));
    }

    private static void exists() {
        for (String text : new String[] {"l15,0", "v15,0", "g15,0", "a15,1;a15,-1", "i15,0", "i15,15"}) {
            CausalTable t = new CausalTable();
            Check.write(t, text);
            t.runText();
            dueTrue(text + " makes the row", t.exists(1, 5));
            dueTrue("not another row", !t.exists(1, 4) && !t.exists(1, 0));
            dueTrue("not at another replica", !t.exists(0, 5) && !t.exists(2, 5));
            t.delete(1, 5);
            dueTrue("not after the deletion", !t.exists(1, 5));
            badCells(t, "exists", CausalTable::exists);
        }
        CausalTable t = new CausalTable();
        t.include(2, 0, 0);
        t.exclude(2, 0, 0);
        dueTrue("not after the exclusion", !t.exists(2, 0));
    }

    private static void mean() {
        CausalTable t = fourSiblings();
        dueTrue("mean of four", t.mean(3, 0) == 22.0f / 4.0f);
        t = new CausalTable();
        t.put(0, 0, 1, 1);
        dueTrue("mean of one", t.mean(0, 0) == 1.0f);
        t.put(1, 0, 1, 1);
        t.put(2, 0, 1, 0);
        t.mergeAll();
        dueTrue("mean of three", t.mean(0, 0) == 2.0f / 3.0f);
        dueTrue("mean of an empty cell", t.mean(0, 1) == 0.0f && 1.0f / t.mean(0, 1) > 0.0f);
        badCells(t, "mean", CausalTable::mean);
    }

    private static void seen() {
        CausalTable t = new CausalTable();
        t.delete(0, 0);
        t.delete(0, 0);
        t.exclude(1, 0, 0);
        t.merge(0, 1);
        t.merge(1, 2);
        int[][] want = {{2, 0, 0, 0}, {2, 1, 0, 0}, {2, 1, 0, 0}, {0, 0, 0, 0}};
        for (int r = 0; r < 4; r++) {
            for (int other = 0; other < 4; other++) {
                due("seen", t.seen(r, other), want[r][other]);
            }
        }
        t.delete(2, 0);
        due("seen", t.seen(2, 2), 1);
        due("clock", t.clock(2), 3);
        for (int bad : BAD_REPLICAS) {
            outOfBounds("seen", () -> t.seen(bad, 0));
            outOfBounds("seen", () -> t.seen(0, bad));
        }
    }

    private static void clock() {
        CausalTable t = new CausalTable();
        t.delete(0, 0);
        t.put(0, 0, 0, 1);
        t.put(1, 0, 0, 1);
        due("clock", t.clock(0), 2);
        due("clock", t.clock(1), 1);
        t.merge(1, 0);
        due("a merge takes the greater clock", t.clock(0), 2);
        t.merge(0, 1);
        due("a merge takes the greater clock", t.clock(1), 2);
        t.add(1, 0, 1);
        due("an update adds 1", t.clock(1), 3);
        t.undo();
        due("an undo restores", t.clock(1), 2);
        due("clock", t.clock(3), 0);
        for (int bad : BAD_REPLICAS) {
            outOfBounds("clock", () -> t.clock(bad));
        }
    }

    private static void relation() {
        CausalTable t = new CausalTable();
        t.delete(0, 0);
        due("relation", t.relation(0, 1), CausalTable.AFTER);
        due("relation", t.relation(1, 0), CausalTable.BEFORE);
        due("relation", t.relation(0, 0), CausalTable.EQUAL);
        due("relation", t.relation(2, 1), CausalTable.EQUAL);
        t.delete(3, 0);
        due("relation", t.relation(0, 3), CausalTable.CONCURRENT);
        due("relation", t.relation(3, 0), CausalTable.CONCURRENT);
        t.merge(0, 3);
        due("relation", t.relation(0, 3), CausalTable.BEFORE);
        due("relation", t.relation(3, 0), CausalTable.AFTER);
        t.merge(3, 0);
        due("relation", t.relation(0, 3), CausalTable.EQUAL);
        for (int bad : BAD_REPLICAS) {
            outOfBounds("relation", () -> t.relation(bad, 0));
            outOfBounds("relation", () -> t.relation(0, bad));
            outOfBounds("relation", () -> t.relation(bad, bad));
        }
    }

    private static void conflicts() {
        CausalTable t = new CausalTable();
        for (int row = 0; row < 6; row++) {
            t.put(0, row, 1, 1);
            t.put(1, row, 1, 1);
            t.put(0, row, 0, 1);
            t.put(1, row, 0, 1);
            due("conflicts", t.conflicts(1), row);
            t.merge(0, 1);
            due("conflicts", t.conflicts(1), row + 1);
            due("conflicts of another", t.conflicts(0), 0);
        }
        t.delete(1, 3);
        due("conflicts", t.conflicts(1), 5);
        t.put(1, 5, 1, 3);
        due("conflicts", t.conflicts(1), 4);
        due("conflicts of three", fourSiblings().conflicts(2), 1);
        for (int bad : BAD_REPLICAS) {
            outOfBounds("conflicts", () -> t.conflicts(bad));
        }
    }

    private static void agreement() {
        CausalTable t = new CausalTable();
        t.include(3, 5, 15);
        dueTrue("agreement", t.agreement() == 29.0 / 30.0);
        t.put(0, 0, 0, 1);
        dueTrue("agreement", t.agreement() == 28.0 / 30.0);
        t.put(1, 0, 0, 1);
        t.put(2, 0, 0, 1);
        t.put(3, 0, 0, 1);
        dueTrue("the same values are not the same entries", t.agreement() == 28.0 / 30.0);
        t.mergeAll();
        dueTrue("agreement", t.agreement() == 1.0);
        t.exclude(1, 5, 15);
        dueTrue("agreement", t.agreement() == 29.0 / 30.0);
        t.mergeAll();
        dueTrue("empty cells agree", t.agreement() == 1.0);
        t.put(0, 0, 0, 1);
        t.delete(1, 0);
        t.delete(2, 0);
        t.delete(3, 0);
        dueTrue("agreement", t.agreement() == 29.0 / 30.0);
        for (int row = 0; row < 6; row++) {
            Check.write(t, "l0R,1;v0R,1;g0R,1;a0R,1;i0R,1".replace('R', (char) ('0' + row)));
            t.runText();
        }
        dueTrue("nothing agrees", t.agreement() == 0.0);
    }

    private static void latestMerge() {
        CausalTable t = new CausalTable();
        for (int part = 0; part < 4; part++) {
            due("latestMerge", t.latestMerge(part), -1);
        }
        t.put(2, 0, 0, 1);
        t.put(2, 1, 0, 1);
        t.merge(2, 1);
        int[] want = {2, 1, 2, 0};
        for (int part = 0; part < 4; part++) {
            due("latestMerge", t.latestMerge(part), want[part]);
        }
        t.delete(2, 0);
        t.ifMerged(2, 1, 3);
        due("an update does not change it", t.latestMerge(3), 0);
        t.merge(2, 1);
        due("latestMerge", t.latestMerge(2), 0);
        due("latestMerge", t.latestMerge(3), 1);
        Check.write(t, "m10;m03");
        t.runText();
        due("by a text", t.latestMerge(0), 0);
        due("by a text", t.latestMerge(1), 3);
        t.mergeAll();
        due("by mergeAll", t.latestMerge(0), 3);
        due("by mergeAll", t.latestMerge(1), 0);
        t.undo();
        due("undone", t.latestMerge(1), 3);
        t.undo();
        due("undone", t.latestMerge(0), 2);
        t.undo();
        t.undo();
        t.undo();
        due("undone to no merge", t.latestMerge(0), -1);
        due("undone to no merge", t.latestMerge(2), -1);
        for (int bad : new int[] {-1, 4, Integer.MAX_VALUE, Integer.MIN_VALUE}) {
            illegalArgument("latestMerge", () -> t.latestMerge(bad));
        }
    }

    private static void ifMerged() {
        CausalTable t = new CausalTable();
        t.put(0, 0, 0, 1);
        t.put(0, 0, 1, 1);
        due("ifMerged", t.ifMerged(0, 1, 2), 2);
        due("ifMerged", t.ifMerged(0, 1, 3), 0);
        due("ifMerged", t.ifMerged(1, 0, 2), 0);
        due("ifMerged", t.ifMerged(1, 0, 3), 0);
        due("nothing is merged", t.latestMerge(0), -1);
        due("nothing is merged", t.entries(1, 0, 0), 0);
        due("nothing is saved", t.savedStates(), 2);
        t.merge(0, 1);
        t.put(0, 0, 0, 2);
        t.delete(1, 0);
        due("ifMerged", t.ifMerged(0, 1, 2), 1);
        due("ifMerged", t.ifMerged(0, 1, 3), 0);
        due("ifMerged", t.ifMerged(1, 0, 2), 0);
        due("ifMerged", t.ifMerged(1, 0, 3), 1);
        due("merge", t.merge(1, 0), 1);
        for (int bad : BAD_REPLICAS) {
            outOfBounds("ifMerged", () -> t.ifMerged(bad, 0, 2));
            outOfBounds("ifMerged", () -> t.ifMerged(0, bad, 2));
            outOfBounds("ifMerged of the same", () -> t.ifMerged(bad, bad, 2));
            outOfBounds("ifMerged with a wrong part", () -> t.ifMerged(0, bad, 1));
        }
        for (int bad : new int[] {-1, 0, 1, 4, Integer.MAX_VALUE, Integer.MIN_VALUE}) {
            illegalArgument("ifMerged", () -> t.ifMerged(0, 1, bad));
        }
        illegalArgument("ifMerged of the same", () -> t.ifMerged(2, 2, 3));
    }

    private static void savedStates() {
        CausalTable t = new CausalTable();
        for (int i = 1; i <= 9; i++) {
            t.exclude(0, 0, 0);
            due("savedStates", t.savedStates(), Math.min(i, 6));
        }
        for (int i = 5; i >= 0; i--) {
            t.undo();
            due("savedStates", t.savedStates(), i);
        }
        Check.write(t, "d00");
        t.runText();
        t.mergeAll();
        t.merge(0, 1);
        t.delete(0, 0);
        t.include(0, 0, 0);
        due("savedStates", t.savedStates(), 5);
        t.clearText();
        due("texts save nothing", t.savedStates(), 5);
    }

    private static void textLength() {
        CausalTable t = new CausalTable();
        for (int i = 1; i <= 80; i++) {
            t.appendText('m');
            due("textLength", t.textLength(), i);
        }
        illegalState("appendText", () -> t.appendText('m'));
        due("textLength", t.textLength(), 80);
        t.clearText();
        due("textLength", t.textLength(), 0);
    }
}
