/**
 * A replicated table whose columns merge by rules (a state-based convergent data type): every
 * replica works alone, and merging two replicas keeps exactly what none of them has seen replaced.
 */
public final class CausalTable {
    public static final int NONE = -1;
    public static final int LATEST = 0, SIBLINGS = 1, GREATEST = 2, COUNTER = 3, SET = 4;
    public static final int EQUAL = 0, BEFORE = 1, AFTER = 2, CONCURRENT = 3;

    private static final int REPLICAS = 4;
    private static final int ROWS = 6;
    private static final int COLUMNS = 5;
    private static final int ELEMENTS = 16;
    private static final int MAX_VALUE = 999;
    private static final int MAX_AMOUNT = 99;
    private static final int MAX_SAVED = 6;
    private static final int MAX_TEXT = 80;
    private static final int FIRST_CHARACTER = 32;
    private static final int LAST_CHARACTER = 126;

    // The parts of the result of a merge.
    private static final int PART_FROM = 0;
    private static final int PART_TO = 1;
    private static final int PART_ADDED = 2;
    private static final int PART_REMOVED = 3;
    private static final int PARTS = 4;

    private final State state = new State();
    private final History history = new History();
    private final Text text = new Text();

    public CausalTable() {
    }

    // ---- updates

    public int put(int replica, int row, int column, int value)
            throws IndexOutOfBoundsException, IllegalArgumentException {
        checkReplica(replica);
        checkRow(row);
        if (column != LATEST && column != SIBLINGS && column != GREATEST) {
            throw new IndexOutOfBoundsException("no column into which a value can be put");
        }
        if (value < 0 || value > MAX_VALUE) {
            throw new IllegalArgumentException("the value is out of range");
        }
        history.save(state);
        return state.putValue(replica, row, column, value);
    }

    public int add(int replica, int row, int amount)
            throws IndexOutOfBoundsException, IllegalArgumentException {
        checkReplica(replica);
        checkRow(row);
        if (amount < -MAX_AMOUNT || amount > MAX_AMOUNT || amount == 0) {
            throw new IllegalArgumentException("the amount is out of range or 0");
        }
        history.save(state);
        state.addAmount(replica, row, amount);
        return state.sumOfCell(replica, row, COUNTER);
    }

    public int include(int replica, int row, int element)
            throws IndexOutOfBoundsException, IllegalArgumentException {
        checkReplica(replica);
        checkRow(row);
        checkElement(element);
        history.save(state);
        return state.includeElement(replica, row, element);
    }

    public int exclude(int replica, int row, int element)
            throws IndexOutOfBoundsException, IllegalArgumentException {
        checkReplica(replica);
        checkRow(row);
        checkElement(element);
        history.save(state);
        return state.excludeElement(replica, row, element);
    }

    public int delete(int replica, int row) throws IndexOutOfBoundsException {
        checkReplica(replica);
        checkRow(row);
        history.save(state);
        return state.deleteRow(replica, row);
    }

    // ---- merging

    public int merge(int from, int to)
            throws IndexOutOfBoundsException, IllegalArgumentException {
        checkReplica(from);
        checkReplica(to);
        checkDifferent(from, to);
        history.save(state);
        return state.mergeReplica(from, to);
    }

    public int mergeAll() {
        history.save(state);
        int changing = 0;
        for (int to = 1; to < REPLICAS; to++) {
            if (state.mergeReplica(to - 1, to) > 0) {
                changing++;
            }
        }
        for (int to = REPLICAS - 2; to >= 0; to--) {
            if (state.mergeReplica(REPLICAS - 1, to) > 0) {
                changing++;
            }
        }
        return changing;
    }

    // ---- texts

    public int appendText(int character) throws IllegalArgumentException, IllegalStateException {
        if (character < FIRST_CHARACTER || character > LAST_CHARACTER) {
            throw new IllegalArgumentException("the character code is out of range");
        }
        if (text.length >= MAX_TEXT) {
            throw new IllegalStateException("the text is full");
        }
        text.append((char) character);
        return text.length;
    }

    public int clearText() {
        int length = text.length;
        text.length = 0;
        return length;
    }

    public int errorPosition() {
        return text.findError();
    }

    public int runText() throws IllegalStateException {
        if (text.findError() != NONE) {
            throw new IllegalStateException("the text is not valid");
        }
        history.save(state);
        text.rewind();
        int commands = 0;
        while (commands < MAX_TEXT && text.readNext()) {
            execute();
            commands++;
        }
        return commands;
    }

    // ---- undo

    public int undo() throws IllegalStateException {
        if (history.size == 0) {
            throw new IllegalStateException("there is no saved state");
        }
        history.restore(state);
        return history.size;
    }

    // ---- queries about cells

    public int latest(int replica, int row) throws IndexOutOfBoundsException {
        checkReplica(replica);
        checkRow(row);
        return state.latestValue(replica, row);
    }

    public int sibling(int replica, int row, int index) throws IndexOutOfBoundsException {
        checkReplica(replica);
        checkRow(row);
        if (index < 0) {
            throw new IndexOutOfBoundsException("the index is negative");
        }
        return state.siblingAt(replica, row, index);
    }

    public int greatest(int replica, int row) throws IndexOutOfBoundsException {
        checkReplica(replica);
        checkRow(row);
        return state.greatestValue(replica, row);
    }

    public int counter(int replica, int row) throws IndexOutOfBoundsException {
        checkReplica(replica);
        checkRow(row);
        return state.sumOfCell(replica, row, COUNTER);
    }

    public int elements(int replica, int row) throws IndexOutOfBoundsException {
        checkReplica(replica);
        checkRow(row);
        return state.elementBits(replica, row);
    }

    public int entries(int replica, int row, int column) throws IndexOutOfBoundsException {
        checkReplica(replica);
        checkRow(row);
        if (column < 0 || column >= COLUMNS) {
            throw new IndexOutOfBoundsException("no such column");
        }
        return state.countInCell(replica, row, column);
    }

    public boolean exists(int replica, int row) throws IndexOutOfBoundsException {
        checkReplica(replica);
        checkRow(row);
        return state.holdsRow(replica, row);
    }

    public float mean(int replica, int row) throws IndexOutOfBoundsException {
        checkReplica(replica);
        checkRow(row);
        int count = state.countInCell(replica, row, SIBLINGS);
        if (count == 0) {
            return 0.0f;
        }
        return (float) state.sumOfCell(replica, row, SIBLINGS) / (float) count;
    }

    // ---- queries about replicas

    public int seen(int replica, int other) throws IndexOutOfBoundsException {
        checkReplica(replica);
        checkReplica(other);
        return state.seenNumber(replica, other);
    }

    public int clock(int replica) throws IndexOutOfBoundsException {
        checkReplica(replica);
        return state.clocks[replica];
    }

    public int relation(int a, int b) throws IndexOutOfBoundsException {
        checkReplica(a);
        checkReplica(b);
        boolean aKnowsB = state.knows(a, b);
        boolean bKnowsA = state.knows(b, a);
        if (aKnowsB) {
            return bKnowsA ? EQUAL : AFTER;
        }
        return bKnowsA ? BEFORE : CONCURRENT;
    }

    public int conflicts(int replica) throws IndexOutOfBoundsException {
        checkReplica(replica);
        int count = 0;
        for (int row = 0; row < ROWS; row++) {
            if (state.countInCell(replica, row, SIBLINGS) >= 2) {
                count++;
            }
        }
        return count;
    }

    public double agreement() {
        int agreed = 0;
        for (int row = 0; row < ROWS; row++) {
            for (int column = 0; column < COLUMNS; column++) {
                if (state.isAgreed(row, column)) {
                    agreed++;
                }
            }
        }
        return (double) agreed / 30.0;
    }

    // ---- queries about merges

    public int latestMerge(int part) throws IllegalArgumentException {
        if (part < 0 || part >= PARTS) {
            throw new IllegalArgumentException("no such part");
        }
        return state.mergeResult[part];
    }

    public int ifMerged(int from, int to, int part)
            throws IndexOutOfBoundsException, IllegalArgumentException {
        checkReplica(from);
        checkReplica(to);
        checkDifferent(from, to);
        if (part != PART_ADDED && part != PART_REMOVED) {
            throw new IllegalArgumentException("no such part of a merge to come");
        }
        return part == PART_ADDED ? state.countAdded(from, to) : state.countRemoved(from, to);
    }

    public int savedStates() {
        return history.size;
    }

    public int textLength() {
        return text.length;
    }

    // ---- helpers

    private static void checkReplica(int replica) {
        if (replica < 0 || replica >= REPLICAS) {
            throw new IndexOutOfBoundsException("no such replica");
        }
    }

    private static void checkRow(int row) {
        if (row < 0 || row >= ROWS) {
            throw new IndexOutOfBoundsException("no such row");
        }
    }

    private static void checkElement(int element) {
        if (element < 0 || element >= ELEMENTS) {
            throw new IllegalArgumentException("the element is out of range");
        }
    }

    private static void checkDifferent(int from, int to) {
        if (from == to) {
            throw new IllegalArgumentException("both replicas are the same");
        }
    }

    /** Executes the command that the text has read last. */
    private void execute() {
        switch (text.kind) {
            case 'l':
                state.putValue(text.replica, text.target, LATEST, text.number);
                break;
            case 'v':
                state.putValue(text.replica, text.target, SIBLINGS, text.number);
                break;
            case 'g':
                state.putValue(text.replica, text.target, GREATEST, text.number);
                break;
            case 'a':
                state.addAmount(text.replica, text.target, text.number);
                break;
            case 'i':
                state.includeElement(text.replica, text.target, text.number);
                break;
            case 'e':
                state.excludeElement(text.replica, text.target, text.number);
                break;
            case 'd':
                state.deleteRow(text.replica, text.target);
                break;
            case 'm':
                state.mergeReplica(text.replica, text.target);
                break;
            default:
                break;
        }
    }

    /**
     * All that undo restores: entries, seen vectors, clocks and the result of the latest merge.
     *
     * Entries that replace one another form a group: a cell of the first four columns is one
     * group, a cell of the column SET is one group for each element. A replica that makes an entry
     * first removes the one it made in that group before, and whoever sees the new entry has seen
     * the old one, so a group never holds two entries of one maker: one slot a maker is enough.
     */
    private static final class State {
        private static final int GROUPS = SET + ELEMENTS;
        private static final int ROW_SLOTS = GROUPS * REPLICAS;
        private static final int REPLICA_SLOTS = ROWS * ROW_SLOTS;

        // The number of a mark is at least 1, so 0 says that the slot is empty.
        private final int[] numbers = new int[REPLICAS * REPLICA_SLOTS];
        private final int[] stamps = new int[REPLICAS * REPLICA_SLOTS];
        private final int[] values = new int[REPLICAS * REPLICA_SLOTS];
        private final int[] seenNumbers = new int[REPLICAS * REPLICAS];
        private final int[] clocks = new int[REPLICAS];
        private final int[] mergeResult = {NONE, NONE, NONE, NONE};

        void copyFrom(State other) {
            System.arraycopy(other.numbers, 0, numbers, 0, REPLICAS * REPLICA_SLOTS);
            System.arraycopy(other.stamps, 0, stamps, 0, REPLICAS * REPLICA_SLOTS);
            System.arraycopy(other.values, 0, values, 0, REPLICAS * REPLICA_SLOTS);
            System.arraycopy(other.seenNumbers, 0, seenNumbers, 0, REPLICAS * REPLICAS);
            System.arraycopy(other.clocks, 0, clocks, 0, REPLICAS);
            System.arraycopy(other.mergeResult, 0, mergeResult, 0, PARTS);
        }

        // ---- where entries stand

        /** The first slot of a group; the first slot behind a row is that of the group GROUPS. */
        private static int slotOf(int replica, int row, int group) {
            return replica * REPLICA_SLOTS + row * ROW_SLOTS + group * REPLICAS;
        }

        private static int cellStart(int replica, int row, int column) {
            return slotOf(replica, row, column);
        }

        private static int cellEnd(int replica, int row, int column) {
            return slotOf(replica, row, column == SET ? GROUPS : column + 1);
        }

        private static int groupOfElement(int element) {
            return SET + element;
        }

        private int countEntries(int start, int end) {
            int count = 0;
            for (int slot = start; slot < end; slot++) {
                if (numbers[slot] != 0) {
                    count++;
                }
            }
            return count;
        }

        private int removeEntries(int start, int end) {
            int count = countEntries(start, end);
            for (int slot = start; slot < end; slot++) {
                numbers[slot] = 0;
            }
            return count;
        }

        private int removeGroup(int replica, int row, int group) {
            return removeEntries(slotOf(replica, row, group), slotOf(replica, row, group + 1));
        }

        // ---- updates

        int seenNumber(int replica, int other) {
            return seenNumbers[replica * REPLICAS + other];
        }

        private void beginUpdate(int replica) {
            clocks[replica]++;
            seenNumbers[replica * REPLICAS + replica]++;
        }

        private void makeEntry(int replica, int row, int group, int value) {
            int slot = slotOf(replica, row, group) + replica;
            numbers[slot] = seenNumber(replica, replica);
            stamps[slot] = clocks[replica];
            values[slot] = value;
        }

        int putValue(int replica, int row, int column, int value) {
            beginUpdate(replica);
            int kept = value;
            if (column == GREATEST) {
                kept = Math.max(value, greatestValue(replica, row));
            }
            int removed = removeGroup(replica, row, column);
            makeEntry(replica, row, column, kept);
            return removed;
        }

        void addAmount(int replica, int row, int amount) {
            beginUpdate(replica);
            int own = slotOf(replica, row, COUNTER) + replica;
            int before = numbers[own] != 0 ? values[own] : 0;
            makeEntry(replica, row, COUNTER, before + amount);
        }

        int includeElement(int replica, int row, int element) {
            beginUpdate(replica);
            int removed = removeGroup(replica, row, groupOfElement(element));
            makeEntry(replica, row, groupOfElement(element), element);
            return removed;
        }

        int excludeElement(int replica, int row, int element) {
            beginUpdate(replica);
            return removeGroup(replica, row, groupOfElement(element));
        }

        int deleteRow(int replica, int row) {
            beginUpdate(replica);
            return removeEntries(slotOf(replica, row, 0), slotOf(replica, row, GROUPS));
        }

        // ---- merging

        int mergeReplica(int from, int to) {
            int added = countAdded(from, to);
            int removed = countRemoved(from, to);
            for (int offset = 0; offset < REPLICA_SLOTS; offset++) {
                mergeSlot(from, to, offset);
            }
            mergeKnowledge(from, to);
            mergeResult[PART_FROM] = from;
            mergeResult[PART_TO] = to;
            mergeResult[PART_ADDED] = added;
            mergeResult[PART_REMOVED] = removed;
            return added + removed;
        }

        int countAdded(int from, int to) {
            int count = 0;
            for (int offset = 0; offset < REPLICA_SLOTS; offset++) {
                if (isAdded(from, to, offset)) {
                    count++;
                }
            }
            return count;
        }

        int countRemoved(int from, int to) {
            int count = 0;
            for (int offset = 0; offset < REPLICA_SLOTS; offset++) {
                if (isRemoved(from, to, offset)) {
                    count++;
                }
            }
            return count;
        }

        /** Whether the entry at an offset is in the replica from only, and new to the other one. */
        private boolean isAdded(int from, int to, int offset) {
            int number = numbers[from * REPLICA_SLOTS + offset];
            return number != 0
                    && number != numbers[to * REPLICA_SLOTS + offset]
                    && number > seenNumber(to, offset % REPLICAS);
        }

        /** Whether the entry at an offset is in the replica to only, and from has seen it. */
        private boolean isRemoved(int from, int to, int offset) {
            int number = numbers[to * REPLICA_SLOTS + offset];
            return number != 0
                    && number != numbers[from * REPLICA_SLOTS + offset]
                    && number <= seenNumber(from, offset % REPLICAS);
        }

        private void mergeSlot(int from, int to, int offset) {
            int source = from * REPLICA_SLOTS + offset;
            int target = to * REPLICA_SLOTS + offset;
            // An entry that comes in was made later than one of the same maker that it finds in
            // its slot, so that one is removed too.
            if (isAdded(from, to, offset)) {
                numbers[target] = numbers[source];
                stamps[target] = stamps[source];
                values[target] = values[source];
            } else if (isRemoved(from, to, offset)) {
                numbers[target] = 0;
            }
        }

        private void mergeKnowledge(int from, int to) {
            for (int other = 0; other < REPLICAS; other++) {
                seenNumbers[to * REPLICAS + other] =
                        Math.max(seenNumber(from, other), seenNumber(to, other));
            }
            clocks[to] = Math.max(clocks[from], clocks[to]);
        }

        // ---- what a cell tells

        int latestValue(int replica, int row) {
            int start = cellStart(replica, row, LATEST);
            int end = cellEnd(replica, row, LATEST);
            int latestStamp = 0;
            int value = NONE;
            for (int slot = start; slot < end; slot++) {
                // The slots ascend with the maker, so a later one wins among equal stamps.
                if (numbers[slot] != 0 && stamps[slot] >= latestStamp) {
                    latestStamp = stamps[slot];
                    value = values[slot];
                }
            }
            return value;
        }

        int siblingAt(int replica, int row, int index) {
            int start = cellStart(replica, row, SIBLINGS);
            int end = cellEnd(replica, row, SIBLINGS);
            for (int slot = start; slot < end; slot++) {
                if (numbers[slot] != 0 && rankInCell(start, end, slot) == index) {
                    return values[slot];
                }
            }
            return NONE;
        }

        /** How many entries stand before that of a slot in ascending order. */
        private int rankInCell(int start, int end, int slot) {
            int rank = 0;
            for (int other = start; other < end; other++) {
                boolean before = values[other] < values[slot]
                        || (values[other] == values[slot] && other < slot);
                if (numbers[other] != 0 && before) {
                    rank++;
                }
            }
            return rank;
        }

        int greatestValue(int replica, int row) {
            int end = cellEnd(replica, row, GREATEST);
            int value = NONE;
            for (int slot = cellStart(replica, row, GREATEST); slot < end; slot++) {
                if (numbers[slot] != 0) {
                    value = Math.max(value, values[slot]);
                }
            }
            return value;
        }

        int sumOfCell(int replica, int row, int column) {
            int end = cellEnd(replica, row, column);
            int sum = 0;
            for (int slot = cellStart(replica, row, column); slot < end; slot++) {
                if (numbers[slot] != 0) {
                    sum += values[slot];
                }
            }
            return sum;
        }

        int elementBits(int replica, int row) {
            int end = cellEnd(replica, row, SET);
            int bits = 0;
            for (int slot = cellStart(replica, row, SET); slot < end; slot++) {
                if (numbers[slot] != 0) {
                    bits |= 1 << values[slot];
                }
            }
            return bits;
        }

        int countInCell(int replica, int row, int column) {
            return countEntries(cellStart(replica, row, column), cellEnd(replica, row, column));
        }

        boolean holdsRow(int replica, int row) {
            return countEntries(slotOf(replica, row, 0), slotOf(replica, row, GROUPS)) > 0;
        }

        // ---- comparing replicas

        /** Whether the replica a knows the replica b. */
        boolean knows(int a, int b) {
            for (int other = 0; other < REPLICAS; other++) {
                if (seenNumber(a, other) < seenNumber(b, other)) {
                    return false;
                }
            }
            return true;
        }

        /** Whether all replicas hold the same entries in a cell. */
        boolean isAgreed(int row, int column) {
            int end = cellEnd(0, row, column);
            for (int slot = cellStart(0, row, column); slot < end; slot++) {
                for (int replica = 1; replica < REPLICAS; replica++) {
                    // The same number in the same slot is the same mark, so the same entry.
                    if (numbers[slot] != numbers[replica * REPLICA_SLOTS + slot]) {
                        return false;
                    }
                }
            }
            return true;
        }
    }

    /**
     * The saved states, in a ring. A place of the ring gets its state when it is first needed, and
     * keeps it, so an object that never saves stays small and one that saves often makes no more.
     */
    private static final class History {
        private final State[] ring = new State[MAX_SAVED];
        private int oldest = 0;
        private int size = 0;

        void save(State state) {
            if (size == MAX_SAVED) {
                oldest = (oldest + 1) % MAX_SAVED;
                size--;
            }
            int place = (oldest + size) % MAX_SAVED;
            State copy = ring[place];
            if (copy == null) {
                copy = new State();
                ring[place] = copy;
            }
            copy.copyFrom(state);
            size++;
        }

        /** Brings back the state that was saved last, if there is one, and forgets it. */
        void restore(State state) {
            if (size == 0) {
                return;
            }
            size--;
            State last = ring[(oldest + size) % MAX_SAVED];
            if (last != null) {
                state.copyFrom(last);
            }
        }
    }

    /** The text buffer, and the command that was read from it last. */
    private static final class Text {
        private final char[] characters = new char[MAX_TEXT];
        private int length = 0;
        private int position = 0;

        private int kind = 0;
        private int replica = 0;
        // The row, or the replica into which another one is merged.
        private int target = 0;
        private int number = 0;

        void append(char character) {
            if (length < MAX_TEXT) {
                characters[length] = character;
                length++;
            }
        }

        /** The error position, NONE if the text is valid. */
        int findError() {
            rewind();
            for (int commands = 0; commands < MAX_TEXT; commands++) {
                // Every character is taken only if a valid text can go on behind it, so the reader
                // stops at the error position.
                if (!readNext()) {
                    return position;
                }
                if (position == length) {
                    return NONE;
                }
            }
            return position;
        }

        void rewind() {
            position = 0;
        }

        /** Reads the next command, and the semicolon before it; false if there is none. */
        boolean readNext() {
            return (position == 0 || readCharacter(';')) && readCommand();
        }

        private boolean readCommand() {
            number = 0;
            if (!readKind()) {
                return false;
            }
            replica = readDigit(REPLICAS - 1);
            if (replica == NONE) {
                return false;
            }
            if (kind == 'm') {
                return readOtherReplica();
            }
            target = readDigit(ROWS - 1);
            if (target == NONE) {
                return false;
            }
            return kind == 'd' || (readCharacter(',') && readArgument());
        }

        private boolean readKind() {
            kind = nextCharacter();
            switch (kind) {
                case 'l':
                case 'v':
                case 'g':
                case 'a':
                case 'i':
                case 'e':
                case 'd':
                case 'm':
                    position++;
                    return true;
                default:
                    return false;
            }
        }

        private boolean readOtherReplica() {
            if (nextDigit(REPLICAS - 1) == replica) {
                return false;
            }
            target = readDigit(REPLICAS - 1);
            return target != NONE;
        }

        private boolean readArgument() {
            boolean isAmount = kind == 'a';
            boolean isNegative = isAmount && readCharacter('-');
            boolean isRead = isAmount ? readNumber(1, MAX_AMOUNT) : readNumber(0, mostForKind());
            if (isNegative) {
                number = -number;
            }
            return isRead;
        }

        private int mostForKind() {
            return kind == 'i' || kind == 'e' ? ELEMENTS - 1 : MAX_VALUE;
        }

        /** Reads as many digits as give a number in the range; false if it is not even one. */
        private boolean readNumber(int least, int most) {
            int first = nextDigit(9);
            if (first == NONE || first < least) {
                return false;
            }
            position++;
            number = first;
            // Nothing follows a leading 0, and no number has more than three digits.
            for (int digits = 1; digits < 3 && number > 0; digits++) {
                int digit = nextDigit(9);
                if (digit == NONE || number * 10 + digit > most) {
                    return true;
                }
                position++;
                number = number * 10 + digit;
            }
            return true;
        }

        private boolean readCharacter(int character) {
            if (nextCharacter() != character) {
                return false;
            }
            position++;
            return true;
        }

        /** Reads a digit up to the given one; NONE, and nothing is read, if there is none. */
        private int readDigit(int most) {
            int digit = nextDigit(most);
            if (digit != NONE) {
                position++;
            }
            return digit;
        }

        private int nextDigit(int most) {
            if (position >= length) {
                return NONE;
            }
            int digit = characters[position] - '0';
            return digit >= 0 && digit <= most ? digit : NONE;
        }

        private int nextCharacter() {
            return position < length ? characters[position] : NONE;
        }
    }
}
