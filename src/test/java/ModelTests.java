import java.util.ArrayDeque;
import java.util.ArrayList;
import java.util.HashSet;
import java.util.List;
import java.util.Set;
import java.util.regex.Matcher;
import java.util.regex.Pattern;

/**
 * Runs of calls on the class and on a second model, which keeps sets of entries just as the
 * document words them. The runs are the same each time: their numbers come from a plain sequence.
 * No object is asked more than the 512 times for which it is promised to answer.
 */
public final class ModelTests {
    private static final int RUNS = 2000;
    private static final int CALLS = 512;
    private static final int CALLS_AT_THE_END = 122;
    private static final int MOST_CALLS_OF_A_TEXT = 82;
    private static final String[] NAMES = {
        "put", "put", "put", "add", "add", "include", "include", "exclude", "delete", "merge",
        "merge", "merge", "mergeAll", "appendText", "write", "runText", "undo", "latest",
        "sibling", "greatest", "counter", "elements", "entries", "exists", "mean", "seen", "clock",
        "relation", "conflicts", "agreement", "latestMerge", "ifMerged", "savedStates",
        "textLength", "errorPosition", "clearText"};

    private long seed;
    private final CausalTable table = new CausalTable();
    private final Model model = new Model();
    private int asked = 0;
    private String wrong = null;

    private ModelTests(long seed) {
        this.seed = seed;
    }

    public static void main(String[] args) {
        for (int run = 0; run < RUNS; run++) {
            if (!new ModelTests(run * 7919L + 17).run(run)) {
                System.exit(1);
            }
        }
        System.out.println("class and model agree in " + RUNS + " runs of up to " + CALLS + " calls");
    }

    private int next(int bound) {
        seed = seed * 6364136223846793005L + 1442695040888963407L;
        return (int) ((seed >>> 33) % bound);
    }

    /** Mostly a number of the range, now and then one beside it or far off. */
    private int pick(int least, int most) {
        switch (next(40)) {
            case 0: return least - 1;
            case 1: return most + 1;
            case 2: return next(2) == 0 ? Integer.MIN_VALUE : Integer.MAX_VALUE;
            default: return least + next(most - least + 1);
        }
    }

    private boolean run(int run) {
        // Few rows and values bring more entries into the same cells.
        int rows = 1 + next(3);
        int calls = CALLS - CALLS_AT_THE_END;
        // Now and then a short run, so that its end is compared before too much covers a fault.
        calls = next(2) == 0 ? calls : 20 + next(calls - 20);
        while (asked < calls && wrong == null) {
            String name = NAMES[next(NAMES.length)];
            int[] a = {pick(0, 3), pick(0, rows), pick(0, 4), pick(0, 20)};
            if (name.equals("write")) {
                if (asked + MOST_CALLS_OF_A_TEXT > calls) {
                    continue;
                }
                write(text());
                name = next(2) == 0 ? "runText" : "errorPosition";
            }
            adapt(name, a);
            compare(name, a);
        }
        compareAll(run % 4);
        if (wrong != null) {
            System.out.println("run " + run + ", call " + asked + ": " + wrong);
        }
        return wrong == null && asked <= CALLS;
    }

    private void write(String text) {
        compare("clearText", new int[4]);
        for (int i = 0; i < text.length() && i < 80; i++) {
            compare("appendText", new int[] {text.charAt(i), 0, 0, 0});
        }
    }

    /** Asks both; the first answer that differs is kept. */
    private void compare(String name, int[] a) {
        asked++;
        Object got = answer(table, name, a);
        Object want = answerOfModel(model, name, a);
        if (wrong == null && !got.equals(want)) {
            wrong = name + " of " + a[0] + ", " + a[1] + ", " + a[2] + ", " + a[3] + " answered "
                    + got + ", due is " + want;
        }
    }

    /** All that is told of one replica, and all that is told of the whole. */
    private void compareAll(int replica) {
        for (int row = 0; row < 6; row++) {
            for (String name : new String[] {"latest", "greatest", "counter", "elements", "exists",
                "mean"}) {
                compare(name, new int[] {replica, row, 0, 0});
            }
            for (int i = 0; i < 5; i++) {
                compare("sibling", new int[] {replica, row, i, 0});
                compare("entries", new int[] {replica, row, i, 0});
            }
        }
        for (int other = 0; other < 4; other++) {
            compare("seen", new int[] {replica, other, 0, 0});
            compare("relation", new int[] {replica, other, 0, 0});
            compare("ifMerged", new int[] {replica, other, 2, 0});
            compare("ifMerged", new int[] {replica, other, 3, 0});
            compare("latestMerge", new int[] {other, 0, 0, 0});
        }
        for (String name : new String[] {"clock", "conflicts", "agreement", "savedStates",
            "textLength", "errorPosition"}) {
            compare(name, new int[] {replica, 0, 0, 0});
        }
    }

    private void adapt(String name, int[] a) {
        switch (name) {
            case "put": a[2] = pick(0, 2); a[3] = pick(0, next(3) == 0 ? 999 : 5); break;
            case "add": a[2] = pick(-99, 99); break;
            case "include": case "exclude": a[2] = pick(0, next(3) == 0 ? 15 : 2); break;
            case "appendText": a[0] = pick(32, 126); break;
            case "merge": case "seen": case "relation": a[1] = pick(0, 3); break;
            case "ifMerged": a[1] = pick(0, 3); a[2] = pick(1, 4); break;
            case "mergeAll": case "undo": break;
            default: break;
        }
    }

    private String text() {
        StringBuilder s = new StringBuilder();
        int commands = 1 + next(12);
        for (int i = 0; i < commands; i++) {
            if (i > 0) {
                s.append(';');
            }
            char kind = "lvgaiedmm".charAt(next(9));
            int r = next(4);
            s.append(kind).append(r);
            if (kind == 'm') {
                s.append((r + 1 + next(3)) % 4);
            } else {
                s.append(next(3));
                if (kind == 'a') {
                    s.append(',').append(next(2) == 0 ? "-" : "").append(1 + next(99));
                } else if (kind == 'i' || kind == 'e') {
                    s.append(',').append(next(16));
                } else if (kind != 'd') {
                    s.append(',').append(next(1000));
                }
            }
        }
        int changes = Math.max(0, next(4) - 1);
        for (int i = 0; i < changes; i++) {
            int at = next(s.length());
            char c = "lvgaiedm0123456789,;-;x "
                    .charAt(next(24));
            switch (next(3)) {
                case 0: s.setCharAt(at, c); break;
                case 1: s.insert(at, c); break;
                default: s.setLength(at + 1); break;
            }
        }
        return s.toString();
    }

    // ---- asking both

    private static Object answer(CausalTable t, String name, int[] a) {
        try {
            switch (name) {
                case "put": return t.put(a[0], a[1], a[2], a[3]);
                case "add": return t.add(a[0], a[1], a[2]);
                case "include": return t.include(a[0], a[1], a[2]);
                case "exclude": return t.exclude(a[0], a[1], a[2]);
                case "delete": return t.delete(a[0], a[1]);
                case "merge": return t.merge(a[0], a[1]);
                case "mergeAll": return t.mergeAll();
                case "appendText": return t.appendText(a[0]);
                case "clearText": return t.clearText();
                case "errorPosition": return t.errorPosition();
                case "runText": return t.runText();
                case "undo": return t.undo();
                case "latest": return t.latest(a[0], a[1]);
                case "sibling": return t.sibling(a[0], a[1], a[2]);
                case "greatest": return t.greatest(a[0], a[1]);
                case "counter": return t.counter(a[0], a[1]);
                case "elements": return t.elements(a[0], a[1]);
                case "entries": return t.entries(a[0], a[1], a[2]);
                case "exists": return t.exists(a[0], a[1]);
                case "mean": return t.mean(a[0], a[1]);
                case "seen": return t.seen(a[0], a[1]);
                case "clock": return t.clock(a[0]);
                case "relation": return t.relation(a[0], a[1]);
                case "conflicts": return t.conflicts(a[0]);
                case "agreement": return t.agreement();
                case "latestMerge": return t.latestMerge(a[0]);
                case "ifMerged": return t.ifMerged(a[0], a[1], a[2]);
                case "savedStates": return t.savedStates();
                case "textLength": return t.textLength();
                default: return "no such call";
            }
        } catch (RuntimeException e) {
            return e.getClass().getName();
        }
    }

    private static Object answerOfModel(Model m, String name, int[] a) {
        try {
            return m.call(name, a);
        } catch (RuntimeException e) {
            return e.getClass().getName();
        }
    }

    // ---- the model

    private record Entry(int maker, int number, int stamp, int value) {
    }

    private static final class Replica {
        final List<Set<Entry>> cells = new ArrayList<>();
        int[] seen = new int[4];
        int clock = 0;

        Replica() {
            for (int i = 0; i < 30; i++) {
                cells.add(new HashSet<>());
            }
        }

        Replica(Replica other) {
            for (Set<Entry> cell : other.cells) {
                cells.add(new HashSet<>(cell));
            }
            seen = other.seen.clone();
            clock = other.clock;
        }

        Set<Entry> cell(int row, int column) {
            return cells.get(row * 5 + column);
        }

        boolean hasSeen(Entry e) {
            return seen[e.maker()] >= e.number();
        }
    }

    private record Saved(List<Replica> replicas, int[] result) {
    }

    private static final class Model {
        private static final Pattern VALID = Pattern.compile("C(;C)*".replace("C",
                "([lvg][0-3][0-5],(0|[1-9][0-9]?[0-9]?)|a[0-3][0-5],-?[1-9][0-9]?"
                + "|[ie][0-3][0-5],([02-9]|1[0-5]?)|d[0-3][0-5]|m0[123]|m1[023]|m2[013]|m3[012])"));

        private List<Replica> replicas = new ArrayList<>();
        private int[] result = {-1, -1, -1, -1};
        private final ArrayDeque<Saved> saved = new ArrayDeque<>();
        private String text = "";

        Model() {
            for (int i = 0; i < 4; i++) {
                replicas.add(new Replica());
            }
        }

        private static List<Replica> copy(List<Replica> from) {
            List<Replica> to = new ArrayList<>();
            for (Replica r : from) {
                to.add(new Replica(r));
            }
            return to;
        }

        private void save() {
            saved.addLast(new Saved(copy(replicas), result.clone()));
            if (saved.size() > 6) {
                saved.removeFirst();
            }
        }

        private static void bound(boolean holds) {
            if (!holds) {
                throw new IndexOutOfBoundsException();
            }
        }

        private static void argument(boolean holds) {
            if (!holds) {
                throw new IllegalArgumentException();
            }
        }

        private static void state(boolean holds) {
            if (!holds) {
                throw new IllegalStateException();
            }
        }

        private static boolean in(int i, int least, int most) {
            return i >= least && i <= most;
        }

        private static void replicaAndRow(int[] a) {
            bound(in(a[0], 0, 3) && in(a[1], 0, 5));
        }

        private static void twoReplicas(int[] a) {
            bound(in(a[0], 0, 3) && in(a[1], 0, 3));
        }

        Object call(String name, int[] a) {
            switch (name) {
                case "put": case "add": case "include": case "exclude": case "delete":
                    replicaAndRow(a);
                    bound(!name.equals("put") || in(a[2], 0, 2));
                    argument(!name.equals("put") || in(a[3], 0, 999));
                    argument(!name.equals("add") || in(a[2], -99, 99) && a[2] != 0);
                    argument(!name.endsWith("clude") || in(a[2], 0, 15));
                    save();
                    return update(name, a);
                case "merge":
                    twoReplicas(a);
                    argument(a[0] != a[1]);
                    save();
                    return merge(a[0], a[1]);
                case "mergeAll":
                    save();
                    return mergeAll();
                case "ifMerged":
                    twoReplicas(a);
                    argument(a[0] != a[1] && in(a[2], 2, 3));
                    return ifMerged(a);
                case "appendText": return appendText(a[0]);
                case "clearText": return clearText();
                case "errorPosition": return errorPosition();
                case "runText": return runText();
                case "undo": return undo();
                case "latestMerge":
                    argument(in(a[0], 0, 3));
                    return result[a[0]];
                case "savedStates": return saved.size();
                case "textLength": return text.length();
                case "seen":
                    twoReplicas(a);
                    return replicas.get(a[0]).seen[a[1]];
                case "clock":
                    bound(in(a[0], 0, 3));
                    return replicas.get(a[0]).clock;
                case "relation":
                    twoReplicas(a);
                    return relation(a[0], a[1]);
                case "conflicts":
                    bound(in(a[0], 0, 3));
                    return conflicts(a[0]);
                case "agreement": return agreement();
                default:
                    replicaAndRow(a);
                    return tell(name, a);
            }
        }

        private Object tell(String name, int[] a) {
            Replica r = replicas.get(a[0]);
            switch (name) {
                case "latest":
                    Entry last = null;
                    for (Entry e : r.cell(a[1], 0)) {
                        if (last == null || e.stamp() > last.stamp()
                                || e.stamp() == last.stamp() && e.maker() > last.maker()) {
                            last = e;
                        }
                    }
                    return last == null ? -1 : last.value();
                case "sibling":
                    bound(a[2] >= 0);
                    List<Integer> sorted = sorted(r.cell(a[1], 1));
                    return a[2] < sorted.size() ? sorted.get(a[2]) : -1;
                case "greatest":
                    List<Integer> all = sorted(r.cell(a[1], 2));
                    return all.isEmpty() ? -1 : all.get(all.size() - 1);
                case "counter":
                    return sum(r.cell(a[1], 3));
                case "elements":
                    int bits = 0;
                    for (Entry e : r.cell(a[1], 4)) {
                        bits |= 1 << e.value();
                    }
                    return bits;
                case "entries":
                    bound(in(a[2], 0, 4));
                    return r.cell(a[1], a[2]).size();
                case "exists":
                    boolean some = false;
                    for (int column = 0; column < 5; column++) {
                        some |= !r.cell(a[1], column).isEmpty();
                    }
                    return some;
                case "mean":
                    Set<Entry> cell = r.cell(a[1], 1);
                    return cell.isEmpty() ? 0.0f : (float) sum(cell) / (float) cell.size();
                default:
                    return "no such call in the model";
            }
        }

        private static List<Integer> sorted(Set<Entry> cell) {
            List<Integer> values = new ArrayList<>();
            for (Entry e : cell) {
                values.add(e.value());
            }
            values.sort(null);
            return values;
        }

        private static int sum(Set<Entry> cell) {
            int sum = 0;
            for (Entry e : cell) {
                sum += e.value();
            }
            return sum;
        }

        private int update(String name, int[] a) {
            int maker = a[0];
            Replica r = replicas.get(maker);
            r.clock++;
            r.seen[maker]++;
            int column = name.equals("put") ? a[2] : name.equals("add") ? 3 : 4;
            Set<Entry> cell = r.cell(a[1], column);
            int before = cell.size();
            int value = name.equals("put") ? a[3] : a[2];
            switch (name) {
                case "put":
                    if (column == 2 && before > 0) {
                        List<Integer> old = sorted(cell);
                        value = Math.max(value, old.get(before - 1));
                    }
                    cell.clear();
                    break;
                case "add":
                    for (Entry e : new ArrayList<>(cell)) {
                        if (e.maker() == maker) {
                            value += e.value();
                            cell.remove(e);
                        }
                    }
                    break;
                case "delete":
                    before = 0;
                    for (int i = 0; i < 5; i++) {
                        before += r.cell(a[1], i).size();
                        r.cell(a[1], i).clear();
                    }
                    return before;
                default:
                    int element = value;
                    cell.removeIf(e -> e.value() == element);
                    break;
            }
            int removed = before - cell.size();
            if (!name.equals("exclude")) {
                cell.add(new Entry(maker, r.seen[maker], r.clock, value));
            }
            return name.equals("add") ? sum(cell) : removed;
        }

        private int merge(int from, int to) {
            Replica f = replicas.get(from);
            Replica t = replicas.get(to);
            int added = 0;
            int removed = 0;
            for (int i = 0; i < 30; i++) {
                Set<Entry> after = new HashSet<>();
                for (Entry e : f.cells.get(i)) {
                    if (t.cells.get(i).contains(e) || !t.hasSeen(e)) {
                        after.add(e);
                    }
                }
                for (Entry e : t.cells.get(i)) {
                    if (!f.cells.get(i).contains(e) && !f.hasSeen(e)) {
                        after.add(e);
                    }
                }
                for (Entry e : after) {
                    added += t.cells.get(i).contains(e) ? 0 : 1;
                }
                for (Entry e : t.cells.get(i)) {
                    removed += after.contains(e) ? 0 : 1;
                }
                t.cells.set(i, after);
            }
            for (int i = 0; i < 4; i++) {
                t.seen[i] = Math.max(t.seen[i], f.seen[i]);
            }
            t.clock = Math.max(t.clock, f.clock);
            result = new int[] {from, to, added, removed};
            return added + removed;
        }

        private int mergeAll() {
            int changing = 0;
            for (int[] m : new int[][] {{0, 1}, {1, 2}, {2, 3}, {3, 2}, {3, 1}, {3, 0}}) {
                changing += merge(m[0], m[1]) > 0 ? 1 : 0;
            }
            return changing;
        }

        private int ifMerged(int[] a) {
            List<Replica> keptReplicas = copy(replicas);
            int[] keptResult = result;
            merge(a[0], a[1]);
            int answer = result[a[2]];
            replicas = keptReplicas;
            result = keptResult;
            return answer;
        }

        private int relation(int a, int b) {
            boolean aKnows = true;
            boolean bKnows = true;
            for (int i = 0; i < 4; i++) {
                aKnows &= replicas.get(a).seen[i] >= replicas.get(b).seen[i];
                bKnows &= replicas.get(b).seen[i] >= replicas.get(a).seen[i];
            }
            return aKnows && bKnows ? 0 : bKnows ? 1 : aKnows ? 2 : 3;
        }

        private int conflicts(int replica) {
            int count = 0;
            for (int row = 0; row < 6; row++) {
                count += replicas.get(replica).cell(row, 1).size() >= 2 ? 1 : 0;
            }
            return count;
        }

        private double agreement() {
            int count = 0;
            for (int i = 0; i < 30; i++) {
                Set<Set<Entry>> different = new HashSet<>();
                for (Replica r : replicas) {
                    different.add(r.cells.get(i));
                }
                count += different.size() == 1 ? 1 : 0;
            }
            return (double) count / 30.0;
        }

        private int appendText(int character) {
            argument(in(character, 32, 126));
            state(text.length() < 80);
            text += (char) character;
            return text.length();
        }

        private int clearText() {
            int length = text.length();
            text = "";
            return length;
        }

        private int errorPosition() {
            if (VALID.matcher(text).matches()) {
                return -1;
            }
            for (int i = 0; i < text.length(); i++) {
                Matcher m = VALID.matcher(text.substring(0, i + 1));
                // At its end means: more characters might make it valid.
                if (!m.matches() && !m.hitEnd()) {
                    return i;
                }
            }
            return text.length();
        }

        private int runText() {
            state(VALID.matcher(text).matches());
            save();
            String[] commands = text.split(";");
            for (String command : commands) {
                int r = command.charAt(1) - '0';
                int k = command.charAt(2) - '0';
                int n = command.length() > 3 ? Integer.parseInt(command.substring(4)) : 0;
                switch (command.charAt(0)) {
                    case 'l': update("put", new int[] {r, k, 0, n}); break;
                    case 'v': update("put", new int[] {r, k, 1, n}); break;
                    case 'g': update("put", new int[] {r, k, 2, n}); break;
                    case 'a': update("add", new int[] {r, k, n}); break;
                    case 'i': update("include", new int[] {r, k, n}); break;
                    case 'e': update("exclude", new int[] {r, k, n}); break;
                    case 'd': update("delete", new int[] {r, k, 0}); break;
                    default: merge(r, k); break;
                }
            }
            return commands.length;
        }

        private int undo() {
            state(!saved.isEmpty());
            Saved last = saved.removeLast();
            replicas = last.replicas();
            result = last.result();
            return saved.size();
        }
    }
}
