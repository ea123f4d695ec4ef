/** The boundary cases of promises 1 to 6: a new object, put, add, include, exclude, delete. */
public final class BoundaryUpdateTests {
    private static final int LATEST = CausalTable.LATEST;
    private static final int SIBLINGS = CausalTable.SIBLINGS;
    private static final int GREATEST = CausalTable.GREATEST;
    private static final int COUNTER = CausalTable.COUNTER;
    private static final int SET = CausalTable.SET;

    public static void main(String[] args) {
        Check.runAll(BoundaryUpdateTests.class, 1, 2, 3, 4, 5, 6);
    }

    // ---- promise 1: a new object

    static void promise01_newObject_hasReplicas0To3() {
        CausalTable t = new CausalTable();
        for (int replica = 0; replica < 4; replica++) {
            Check.due("clock", t.clock(replica), 0);
        }
        Check.due("clock(-1)", Check.thrown(t, u -> u.clock(-1)), Check.BOUNDS);
        Check.due("clock(4)", Check.thrown(t, u -> u.clock(4)), Check.BOUNDS);
    }

    static void promise01_newObject_hasRows0To5() {
        CausalTable t = new CausalTable();
        for (int row = 0; row < 6; row++) {
            Check.due("exists", t.exists(0, row), false);
        }
        Check.due("exists(0, -1)", Check.thrown(t, u -> u.exists(0, -1)), Check.BOUNDS);
        Check.due("exists(0, 6)", Check.thrown(t, u -> u.exists(0, 6)), Check.BOUNDS);
    }

    static void promise01_newObject_hasColumns0To4() {
        CausalTable t = new CausalTable();
        for (int column = 0; column < 5; column++) {
            Check.due("entries", t.entries(0, 0, column), 0);
        }
        Check.due("entries(0, 0, -1)", Check.thrown(t, u -> u.entries(0, 0, -1)), Check.BOUNDS);
        Check.due("entries(0, 0, 5)", Check.thrown(t, u -> u.entries(0, 0, 5)), Check.BOUNDS);
    }

    static void promise01_newObject_allCellsAreEmptyAtFirst() {
        CausalTable t = new CausalTable();
        for (int replica = 0; replica < 4; replica++) {
            for (int row = 0; row < 6; row++) {
                Check.due("latest", t.latest(replica, row), -1);
                Check.due("sibling", t.sibling(replica, row, 0), -1);
                Check.due("greatest", t.greatest(replica, row), -1);
                Check.due("counter", t.counter(replica, row), 0);
                Check.due("elements", t.elements(replica, row), 0);
                Check.due("exists", t.exists(replica, row), false);
                Check.due("mean", t.mean(replica, row), 0.0f);
                for (int column = LATEST; column <= SET; column++) {
                    Check.due("entries", t.entries(replica, row, column), 0);
                }
            }
            Check.due("conflicts", t.conflicts(replica), 0);
        }
        Check.due("agreement", t.agreement(), 1.0);
    }

    static void promise01_newObject_seenNumbersAre0AtFirst() {
        CausalTable t = new CausalTable();
        for (int replica = 0; replica < 4; replica++) {
            for (int other = 0; other < 4; other++) {
                Check.due("seen", t.seen(replica, other), 0);
                Check.due("relation", t.relation(replica, other), CausalTable.EQUAL);
            }
        }
    }

    static void promise01_newObject_clocksAre0AtFirst() {
        CausalTable t = new CausalTable();
        for (int replica = 0; replica < 4; replica++) {
            Check.due("clock", t.clock(replica), 0);
        }
    }

    static void promise01_newObject_noMergeIsTheLatest() {
        CausalTable t = new CausalTable();
        for (int part = 0; part < 4; part++) {
            Check.due("latestMerge", t.latestMerge(part), -1);
        }
    }

    static void promise01_newObject_nothingIsSaved() {
        Check.due("savedStates", new CausalTable().savedStates(), 0);
        Check.due("undo", Check.thrown(new CausalTable(), CausalTable::undo), Check.STATE);
    }

    static void promise01_newObject_textIsEmptyAtFirst() {
        CausalTable t = new CausalTable();
        Check.due("textLength", t.textLength(), 0);
        Check.due("errorPosition", t.errorPosition(), 0);
        Check.due("clearText", t.clearText(), 0);
    }

    static void promise01_newObject_sharesNothingWithAnother() {
        CausalTable before = new CausalTable();
        Check.made(Check::used);
        CausalTable after = new CausalTable();
        String untouched = Check.all(new CausalTable());
        Check.same("an object made before", Check.all(before), untouched);
        Check.same("an object made after", Check.all(after), untouched);
    }

    static void promise01_newObject_constantsAreAsNamed() {
        Check.due("NONE", CausalTable.NONE, -1);
        Check.due("LATEST", CausalTable.LATEST, 0);
        Check.due("SIBLINGS", CausalTable.SIBLINGS, 1);
        Check.due("GREATEST", CausalTable.GREATEST, 2);
        Check.due("COUNTER", CausalTable.COUNTER, 3);
        Check.due("SET", CausalTable.SET, 4);
        Check.due("EQUAL", CausalTable.EQUAL, 0);
        Check.due("BEFORE", CausalTable.BEFORE, 1);
        Check.due("AFTER", CausalTable.AFTER, 2);
        Check.due("CONCURRENT", CausalTable.CONCURRENT, 3);
    }

    static void promise01_newObject_answersTo512Calls() {
        CausalTable t = new CausalTable();
        for (int call = 1; call <= 509; call++) {
            Check.due("add", t.add(3, 5, 99), 99 * call);
        }
        Check.due("seen, call 510", t.seen(3, 3), 509);
        Check.due("undo, call 511", t.undo(), 5);
        Check.due("counter, call 512", t.counter(3, 5), 99 * 508);
    }

    static void promise01_newObject_answersTo512CallsThatRunTexts() {
        CausalTable t = new CausalTable();
        Check.write(t, "a35,-99;".repeat(9) + "a35,-99");
        // clearText and 79 characters were 80 calls.
        for (int call = 81; call <= 510; call++) {
            Check.due("runText", t.runText(), 10);
        }
        Check.due("clock, call 511", t.clock(3), 4300);
        Check.due("counter, call 512", t.counter(3, 5), -99 * 4300);
    }

    // ---- promise 2: put

    static void promise02_put_replica0IsTaken() {
        CausalTable t = new CausalTable();
        Check.due("put", t.put(0, 1, LATEST, 5), 0);
        Check.due("latest", t.latest(0, 1), 5);
    }

    static void promise02_put_replica3IsTaken() {
        CausalTable t = new CausalTable();
        Check.due("put", t.put(3, 1, LATEST, 5), 0);
        Check.due("latest", t.latest(3, 1), 5);
    }

    static void promise02_put_replicaMinus1IsRefused() {
        Check.refusesReplica("put", -1, (t, r, row) -> t.put(r, row, LATEST, 1));
    }

    static void promise02_put_replica4IsRefused() {
        Check.refusesReplica("put", 4, (t, r, row) -> t.put(r, row, LATEST, 1));
    }

    static void promise02_put_row0IsTaken() {
        CausalTable t = new CausalTable();
        Check.due("put", t.put(1, 0, LATEST, 5), 0);
        Check.due("latest", t.latest(1, 0), 5);
    }

    static void promise02_put_row5IsTaken() {
        CausalTable t = new CausalTable();
        Check.due("put", t.put(1, 5, LATEST, 5), 0);
        Check.due("latest", t.latest(1, 5), 5);
    }

    static void promise02_put_rowMinus1IsRefused() {
        Check.refusesRow("put", -1, (t, r, row) -> t.put(r, row, LATEST, 1));
    }

    static void promise02_put_row6IsRefused() {
        Check.refusesRow("put", 6, (t, r, row) -> t.put(r, row, LATEST, 1));
    }

    static void promise02_put_replicaOrRowFarOffIsRefused() {
        Check.refusesFarOff("put", (t, r, row) -> t.put(r, row, LATEST, 1));
    }

    static void promise02_put_columnLatestIsTaken() {
        CausalTable t = new CausalTable();
        Check.due("put", t.put(1, 2, LATEST, 5), 0);
        Check.due("latest", t.latest(1, 2), 5);
        Check.due("sibling", t.sibling(1, 2, 0), -1);
    }

    static void promise02_put_columnSiblingsIsTaken() {
        CausalTable t = new CausalTable();
        Check.due("put", t.put(1, 2, SIBLINGS, 5), 0);
        Check.due("sibling", t.sibling(1, 2, 0), 5);
        Check.due("latest", t.latest(1, 2), -1);
        Check.due("greatest", t.greatest(1, 2), -1);
    }

    static void promise02_put_columnGreatestIsTaken() {
        CausalTable t = new CausalTable();
        Check.due("put", t.put(1, 2, GREATEST, 5), 0);
        Check.due("greatest", t.greatest(1, 2), 5);
        Check.due("sibling", t.sibling(1, 2, 0), -1);
        Check.due("counter", t.counter(1, 2), 0);
    }

    static void promise02_put_columnMinus1IsRefused() {
        Check.refuses(Check.BOUNDS, "put(0, 0, -1, 1)", t -> t.put(0, 0, -1, 1));
        Check.refuses(Check.BOUNDS, "put(3, 5, -1, 1)", t -> t.put(3, 5, -1, 1));
    }

    static void promise02_put_columnCounterIsRefused() {
        Check.refuses(Check.BOUNDS, "put(0, 0, COUNTER, 1)", t -> t.put(0, 0, COUNTER, 1));
    }

    static void promise02_put_columnSetIsRefused() {
        Check.refuses(Check.BOUNDS, "put(0, 0, SET, 1)", t -> t.put(0, 0, SET, 1));
    }

    static void promise02_put_column5IsRefused() {
        Check.refuses(Check.BOUNDS, "put(0, 0, 5, 1)", t -> t.put(0, 0, 5, 1));
        Check.refuses(Check.BOUNDS, "put(3, 5, 5, 1)", t -> t.put(3, 5, 5, 1));
    }

    static void promise02_put_columnFarOffIsRefused() {
        for (int far : Check.FAR_OFF) {
            Check.refuses(Check.BOUNDS, "put(0, 0, " + far + ", 1)", t -> t.put(0, 0, far, 1));
        }
    }

    static void promise02_put_value0IsTaken() {
        CausalTable t = new CausalTable();
        for (int column = LATEST; column <= GREATEST; column++) {
            Check.due("put", t.put(2, 3, column, 0), 0);
            Check.due("entries", t.entries(2, 3, column), 1);
        }
        Check.due("latest", t.latest(2, 3), 0);
        Check.due("sibling", t.sibling(2, 3, 0), 0);
        Check.due("greatest", t.greatest(2, 3), 0);
    }

    static void promise02_put_value999IsTaken() {
        CausalTable t = new CausalTable();
        for (int column = LATEST; column <= GREATEST; column++) {
            Check.due("put", t.put(2, 3, column, 999), 0);
        }
        Check.due("latest", t.latest(2, 3), 999);
        Check.due("sibling", t.sibling(2, 3, 0), 999);
        Check.due("greatest", t.greatest(2, 3), 999);
    }

    static void promise02_put_valueMinus1IsRefused() {
        for (int column = LATEST; column <= GREATEST; column++) {
            int into = column;
            Check.refuses(Check.ARGUMENT, "put of -1", t -> t.put(0, 0, into, -1));
        }
    }

    static void promise02_put_value1000IsRefused() {
        for (int column = LATEST; column <= GREATEST; column++) {
            int into = column;
            Check.refuses(Check.ARGUMENT, "put of 1000", t -> t.put(0, 0, into, 1000));
        }
    }

    static void promise02_put_valueFarOffIsRefused() {
        for (int far : Check.FAR_OFF) {
            Check.refuses(Check.ARGUMENT, "put of " + far, t -> t.put(0, 0, LATEST, far));
        }
    }

    static void promise02_put_wrongReplicaComesBeforeAWrongValue() {
        Check.refuses(Check.BOUNDS, "put(4, 0, 0, 1000)", t -> t.put(4, 0, LATEST, 1000));
        Check.refuses(Check.BOUNDS, "put(-1, 0, 0, -1)", t -> t.put(-1, 0, LATEST, -1));
    }

    static void promise02_put_wrongRowComesBeforeAWrongValue() {
        Check.refuses(Check.BOUNDS, "put(0, 6, 0, 1000)", t -> t.put(0, 6, LATEST, 1000));
        Check.refuses(Check.BOUNDS, "put(0, -1, 0, -1)", t -> t.put(0, -1, LATEST, -1));
    }

    static void promise02_put_wrongColumnComesBeforeAWrongValue() {
        Check.refuses(Check.BOUNDS, "put(0, 0, 3, 1000)", t -> t.put(0, 0, COUNTER, 1000));
        Check.refuses(Check.BOUNDS, "put(0, 0, -1, -1)", t -> t.put(0, 0, -1, -1));
    }

    static void promise02_put_ofAnEmptyCellRemovesNone() {
        CausalTable t = new CausalTable();
        for (int column = LATEST; column <= GREATEST; column++) {
            Check.due("put", t.put(0, 0, column, 1), 0);
            Check.due("entries", t.entries(0, 0, column), 1);
        }
    }

    static void promise02_put_ofACellWithOneEntryRemovesIt() {
        CausalTable t = new CausalTable();
        for (int column = LATEST; column <= GREATEST; column++) {
            t.put(0, 0, column, 1);
            Check.due("put", t.put(0, 0, column, 2), 1);
            Check.due("entries", t.entries(0, 0, column), 1);
        }
    }

    static void promise02_put_ofAFullCellRemovesAllFour() {
        for (int column = LATEST; column <= GREATEST; column++) {
            CausalTable t = Check.made(u -> Check.fillRow(u, 5));
            Check.due("entries before", t.entries(3, 5, column), 4);
            Check.due("put", t.put(3, 5, column, 7), 4);
            Check.due("entries", t.entries(3, 5, column), 1);
        }
    }

    static void promise02_put_removesNothingBesideItsCell() {
        CausalTable t = Check.made(u -> Check.fillRow(u, 3));
        t.put(1, 3, SIBLINGS, 5);
        t.put(1, 2, SIBLINGS, 5);
        t.put(1, 4, SIBLINGS, 5);
        Check.due("entries of LATEST", t.entries(1, 3, LATEST), 4);
        Check.due("entries of GREATEST", t.entries(1, 3, GREATEST), 4);
        Check.due("entries of COUNTER", t.entries(1, 3, COUNTER), 4);
        Check.due("entries of SET", t.entries(1, 3, SET), 64);
        Check.due("entries of replica 0", t.entries(0, 3, SIBLINGS), 4);
        Check.due("entries of replica 2", t.entries(2, 3, SIBLINGS), 4);
    }

    static void promise02_put_ofTheSameValueMakesANewEntry() {
        CausalTable t = new CausalTable();
        t.put(0, 0, LATEST, 7);
        t.merge(0, 1);
        Check.due("put", t.put(0, 0, LATEST, 7), 1);
        Check.due("added", t.ifMerged(0, 1, 2), 1);
        Check.due("removed", t.ifMerged(0, 1, 3), 1);
    }

    static void promise02_put_intoLatestASmallerValueReplaces() {
        CausalTable t = new CausalTable();
        t.put(0, 0, LATEST, 10);
        t.put(0, 0, LATEST, 9);
        Check.due("latest", t.latest(0, 0), 9);
    }

    static void promise02_put_intoSiblingsASmallerValueReplaces() {
        CausalTable t = new CausalTable();
        t.put(0, 0, SIBLINGS, 10);
        t.put(0, 0, SIBLINGS, 9);
        Check.due("sibling", t.sibling(0, 0, 0), 9);
        Check.due("sibling", t.sibling(0, 0, 1), -1);
    }

    static void promise02_put_intoGreatestOfAnEmptyCellTheValueStands() {
        CausalTable t = new CausalTable();
        t.put(0, 0, GREATEST, 0);
        Check.due("greatest", t.greatest(0, 0), 0);
    }

    static void promise02_put_intoGreatestAValueSmallerBy1KeepsTheOld() {
        CausalTable t = new CausalTable();
        t.put(0, 0, GREATEST, 10);
        Check.due("put", t.put(0, 0, GREATEST, 9), 1);
        Check.due("greatest", t.greatest(0, 0), 10);
        // Now the entry of the second put has the value 10, so nothing is left of the first one.
        t.merge(0, 1);
        Check.due("greatest", t.greatest(1, 0), 10);
        Check.due("entries", t.entries(1, 0, GREATEST), 1);
    }

    static void promise02_put_intoGreatestAnEqualValueIsANewEntry() {
        CausalTable t = new CausalTable();
        t.put(0, 0, GREATEST, 10);
        t.merge(0, 1);
        Check.due("put", t.put(0, 0, GREATEST, 10), 1);
        Check.due("greatest", t.greatest(0, 0), 10);
        Check.due("added", t.ifMerged(0, 1, 2), 1);
    }

    static void promise02_put_intoGreatestAValueGreaterBy1Stands() {
        CausalTable t = new CausalTable();
        t.put(0, 0, GREATEST, 10);
        t.put(0, 0, GREATEST, 11);
        Check.due("greatest", t.greatest(0, 0), 11);
    }

    static void promise02_put_intoGreatestTheGreatestOfAllRemovedStands() {
        for (int best = 0; best < 4; best++) {
            CausalTable t = new CausalTable();
            for (int r = 0; r < 4; r++) {
                t.put(r, 0, GREATEST, r == best ? 50 : r);
            }
            t.mergeAll();
            Check.due("put", t.put(1, 0, GREATEST, 49), 4);
            Check.due("greatest", t.greatest(1, 0), 50);
            Check.due("entries", t.entries(1, 0, GREATEST), 1);
        }
    }

    static void promise02_put_theFirstHasNumber1AndClock1() {
        CausalTable t = new CausalTable();
        t.put(2, 0, LATEST, 1);
        dueNumbers(t, 2);
    }

    static void promise02_put_isUndoable() {
        for (int column = LATEST; column <= GREATEST; column++) {
            int into = column;
            Check.undoable("put", t -> t.put(0, 0, into, 1));
            Check.undoableAfter(u -> Check.fillRow(u, 5), "put", t -> t.put(3, 5, into, 999));
        }
    }

    /** The first update of an object, at a replica, has the number 1 and the clock 1. */
    private static void dueNumbers(CausalTable t, int replica) {
        for (int r = 0; r < 4; r++) {
            Check.due("clock of " + r, t.clock(r), r == replica ? 1 : 0);
            for (int other = 0; other < 4; other++) {
                Check.due("seen of " + r + ", " + other, t.seen(r, other),
                        r == replica && other == replica ? 1 : 0);
            }
        }
    }

    // ---- promise 3: add

    static void promise03_add_replica0IsTaken() {
        CausalTable t = new CausalTable();
        Check.due("add", t.add(0, 1, 5), 5);
        Check.due("counter", t.counter(0, 1), 5);
    }

    static void promise03_add_replica3IsTaken() {
        CausalTable t = new CausalTable();
        Check.due("add", t.add(3, 1, 5), 5);
        Check.due("counter", t.counter(3, 1), 5);
    }

    static void promise03_add_replicaMinus1IsRefused() {
        Check.refusesReplica("add", -1, (t, r, row) -> t.add(r, row, 1));
    }

    static void promise03_add_replica4IsRefused() {
        Check.refusesReplica("add", 4, (t, r, row) -> t.add(r, row, 1));
    }

    static void promise03_add_row0IsTaken() {
        CausalTable t = new CausalTable();
        Check.due("add", t.add(1, 0, 5), 5);
        Check.due("counter", t.counter(1, 0), 5);
    }

    static void promise03_add_row5IsTaken() {
        CausalTable t = new CausalTable();
        Check.due("add", t.add(1, 5, 5), 5);
        Check.due("counter", t.counter(1, 5), 5);
    }

    static void promise03_add_rowMinus1IsRefused() {
        Check.refusesRow("add", -1, (t, r, row) -> t.add(r, row, 1));
    }

    static void promise03_add_row6IsRefused() {
        Check.refusesRow("add", 6, (t, r, row) -> t.add(r, row, 1));
    }

    static void promise03_add_replicaOrRowFarOffIsRefused() {
        Check.refusesFarOff("add", (t, r, row) -> t.add(r, row, 1));
    }

    static void promise03_add_amountMinus99IsTaken() {
        Check.due("add", new CausalTable().add(0, 0, -99), -99);
    }

    static void promise03_add_amount99IsTaken() {
        Check.due("add", new CausalTable().add(0, 0, 99), 99);
    }

    static void promise03_add_amountMinus1IsTaken() {
        Check.due("add", new CausalTable().add(0, 0, -1), -1);
    }

    static void promise03_add_amount1IsTaken() {
        Check.due("add", new CausalTable().add(0, 0, 1), 1);
    }

    static void promise03_add_amount0IsRefused() {
        Check.refuses(Check.ARGUMENT, "add(0, 5, 0)", t -> t.add(0, 5, 0));
        Check.refuses(Check.ARGUMENT, "add(3, 0, 0)", t -> t.add(3, 0, 0));
    }

    static void promise03_add_amountMinus100IsRefused() {
        Check.refuses(Check.ARGUMENT, "add(0, 5, -100)", t -> t.add(0, 5, -100));
    }

    static void promise03_add_amount100IsRefused() {
        Check.refuses(Check.ARGUMENT, "add(0, 5, 100)", t -> t.add(0, 5, 100));
    }

    static void promise03_add_amountFarOffIsRefused() {
        for (int far : Check.FAR_OFF) {
            Check.refuses(Check.ARGUMENT, "add of " + far, t -> t.add(0, 5, far));
        }
    }

    static void promise03_add_wrongReplicaComesBeforeAWrongAmount() {
        Check.refuses(Check.BOUNDS, "add(4, 0, 0)", t -> t.add(4, 0, 0));
        Check.refuses(Check.BOUNDS, "add(-1, 0, 100)", t -> t.add(-1, 0, 100));
    }

    static void promise03_add_wrongRowComesBeforeAWrongAmount() {
        Check.refuses(Check.BOUNDS, "add(0, 6, 0)", t -> t.add(0, 6, 0));
        Check.refuses(Check.BOUNDS, "add(0, -1, -100)", t -> t.add(0, -1, -100));
    }

    static void promise03_add_ofAnEmptyCellAddsTo0() {
        CausalTable t = new CausalTable();
        Check.due("add", t.add(1, 1, 7), 7);
        Check.due("entries", t.entries(1, 1, COUNTER), 1);
    }

    static void promise03_add_ofItsOwnEntryAddsToItsValue() {
        CausalTable t = new CausalTable();
        t.add(1, 1, 7);
        Check.due("add", t.add(1, 1, -9), -2);
        Check.due("entries", t.entries(1, 1, COUNTER), 1);
    }

    static void promise03_add_besideAnotherReplicasEntryAddsTo0() {
        CausalTable t = new CausalTable();
        t.add(0, 1, 7);
        t.merge(0, 1);
        Check.due("add", t.add(1, 1, 2), 9);
        Check.due("entries", t.entries(1, 1, COUNTER), 2);
        // What 1 has added alone is 2, so it is 2 that a replica without the entry of 0 gets.
        t.delete(0, 1);
        t.merge(0, 1);
        Check.due("counter", t.counter(1, 1), 2);
    }

    static void promise03_add_toAFullCellReplacesItsOwnEntryAlone() {
        for (int replica = 0; replica < 4; replica++) {
            CausalTable t = Check.made(u -> Check.fillRow(u, 5));
            Check.due("add", t.add(replica, 5, 20), 30);
            Check.due("entries", t.entries(replica, 5, COUNTER), 4);
            int other = (replica + 1) % 4;
            Check.due("added", t.ifMerged(replica, other, 2), 1);
            Check.due("removed", t.ifMerged(replica, other, 3), 1);
        }
    }

    static void promise03_add_upToTheSum0LeavesAnEntry() {
        CausalTable t = new CausalTable();
        t.add(1, 1, 7);
        Check.due("add", t.add(1, 1, -7), 0);
        Check.due("entries", t.entries(1, 1, COUNTER), 1);
        Check.due("exists", t.exists(1, 1), true);
        Check.due("added", t.ifMerged(1, 0, 2), 1);
    }

    static void promise03_add_afterADeletionAddsTo0() {
        CausalTable t = new CausalTable();
        t.add(0, 1, 7);
        t.merge(0, 1);
        t.delete(0, 1);
        t.merge(1, 0);
        Check.due("add", t.add(0, 1, 2), 2);
        Check.due("entries", t.entries(0, 1, COUNTER), 1);
    }

    static void promise03_add_changesNoOtherCell() {
        CausalTable t = Check.made(u -> Check.fillRow(u, 3));
        t.add(1, 3, 1);
        t.add(1, 2, 1);
        t.add(1, 4, 1);
        Check.due("entries of GREATEST", t.entries(1, 3, GREATEST), 4);
        Check.due("entries of SET", t.entries(1, 3, SET), 64);
        Check.due("greatest", t.greatest(1, 3), 4);
        Check.due("elements", t.elements(1, 3), 0xFFFF);
        Check.due("counter of replica 0", t.counter(0, 3), 10);
        Check.due("counter of row 2", t.counter(1, 2), 1);
        Check.due("counter of row 4", t.counter(1, 4), 1);
    }

    static void promise03_add_theFirstHasNumber1AndClock1() {
        CausalTable t = new CausalTable();
        t.add(3, 0, 1);
        dueNumbers(t, 3);
    }

    static void promise03_add_isUndoable() {
        Check.undoable("add", t -> t.add(0, 5, 99));
        Check.undoable("add", t -> t.add(3, 0, -99));
        Check.undoableAfter(u -> Check.fillRow(u, 5), "add", t -> t.add(3, 5, 1));
    }

    // ---- promise 4: include

    static void promise04_include_replica0IsTaken() {
        CausalTable t = new CausalTable();
        Check.due("include", t.include(0, 1, 5), 0);
        Check.due("elements", t.elements(0, 1), 1 << 5);
    }

    static void promise04_include_replica3IsTaken() {
        CausalTable t = new CausalTable();
        Check.due("include", t.include(3, 1, 5), 0);
        Check.due("elements", t.elements(3, 1), 1 << 5);
    }

    static void promise04_include_replicaMinus1IsRefused() {
        Check.refusesReplica("include", -1, (t, r, row) -> t.include(r, row, 1));
    }

    static void promise04_include_replica4IsRefused() {
        Check.refusesReplica("include", 4, (t, r, row) -> t.include(r, row, 1));
    }

    static void promise04_include_row0IsTaken() {
        CausalTable t = new CausalTable();
        Check.due("include", t.include(1, 0, 5), 0);
        Check.due("elements", t.elements(1, 0), 1 << 5);
    }

    static void promise04_include_row5IsTaken() {
        CausalTable t = new CausalTable();
        Check.due("include", t.include(1, 5, 5), 0);
        Check.due("elements", t.elements(1, 5), 1 << 5);
    }

    static void promise04_include_rowMinus1IsRefused() {
        Check.refusesRow("include", -1, (t, r, row) -> t.include(r, row, 1));
    }

    static void promise04_include_row6IsRefused() {
        Check.refusesRow("include", 6, (t, r, row) -> t.include(r, row, 1));
    }

    static void promise04_include_replicaOrRowFarOffIsRefused() {
        Check.refusesFarOff("include", (t, r, row) -> t.include(r, row, 1));
    }

    static void promise04_include_element0IsTaken() {
        CausalTable t = new CausalTable();
        Check.due("include", t.include(3, 5, 0), 0);
        Check.due("elements", t.elements(3, 5), 1);
    }

    static void promise04_include_element15IsTaken() {
        CausalTable t = new CausalTable();
        Check.due("include", t.include(3, 5, 15), 0);
        Check.due("elements", t.elements(3, 5), 1 << 15);
    }

    static void promise04_include_elementMinus1IsRefused() {
        Check.refuses(Check.ARGUMENT, "include(0, 0, -1)", t -> t.include(0, 0, -1));
        Check.refuses(Check.ARGUMENT, "include(3, 5, -1)", t -> t.include(3, 5, -1));
    }

    static void promise04_include_element16IsRefused() {
        Check.refuses(Check.ARGUMENT, "include(0, 0, 16)", t -> t.include(0, 0, 16));
        Check.refuses(Check.ARGUMENT, "include(3, 5, 16)", t -> t.include(3, 5, 16));
    }

    static void promise04_include_elementFarOffIsRefused() {
        for (int far : Check.FAR_OFF) {
            Check.refuses(Check.ARGUMENT, "include of " + far, t -> t.include(0, 0, far));
        }
        // As a bit of an int, 32 would be the same as 0.
        Check.refuses(Check.ARGUMENT, "include of 32", t -> t.include(0, 0, 32));
        Check.refuses(Check.ARGUMENT, "include of -32", t -> t.include(0, 0, -32));
    }

    static void promise04_include_wrongReplicaComesBeforeAWrongElement() {
        Check.refuses(Check.BOUNDS, "include(4, 0, 16)", t -> t.include(4, 0, 16));
        Check.refuses(Check.BOUNDS, "include(-1, 0, -1)", t -> t.include(-1, 0, -1));
    }

    static void promise04_include_wrongRowComesBeforeAWrongElement() {
        Check.refuses(Check.BOUNDS, "include(0, 6, 16)", t -> t.include(0, 6, 16));
        Check.refuses(Check.BOUNDS, "include(0, -1, -1)", t -> t.include(0, -1, -1));
    }

    static void promise04_include_inAnEmptyCellRemovesNone() {
        CausalTable t = new CausalTable();
        Check.due("include", t.include(1, 1, 8), 0);
        Check.due("entries", t.entries(1, 1, SET), 1);
    }

    static void promise04_include_ofTheSameElementRemovesItsEntry() {
        CausalTable t = new CausalTable();
        t.include(1, 1, 8);
        t.merge(1, 0);
        Check.due("include", t.include(1, 1, 8), 1);
        Check.due("entries", t.entries(1, 1, SET), 1);
        Check.due("added", t.ifMerged(1, 0, 2), 1);
        Check.due("removed", t.ifMerged(1, 0, 3), 1);
    }

    static void promise04_include_besideItsNeighboursRemovesNone() {
        CausalTable t = new CausalTable();
        t.include(1, 1, 7);
        t.include(1, 1, 9);
        Check.due("include", t.include(1, 1, 8), 0);
        Check.due("entries", t.entries(1, 1, SET), 3);
        Check.due("include again", t.include(1, 1, 8), 1);
        Check.due("elements", t.elements(1, 1), 7 << 7);
    }

    static void promise04_include_inAFullCellRemovesFourOf64() {
        for (int element = 0; element < 16; element += 5) {
            CausalTable t = Check.made(u -> Check.fillRow(u, 5));
            Check.due("entries before", t.entries(3, 5, SET), 64);
            Check.due("include", t.include(3, 5, element), 4);
            Check.due("entries", t.entries(3, 5, SET), 61);
            Check.due("elements", t.elements(3, 5), 0xFFFF);
            Check.due("include again", t.include(3, 5, element), 1);
            Check.due("counter", t.counter(3, 5), 10);
        }
    }

    static void promise04_include_theFirstHasNumber1AndClock1() {
        CausalTable t = new CausalTable();
        t.include(1, 0, 0);
        dueNumbers(t, 1);
    }

    static void promise04_include_isUndoable() {
        Check.undoable("include", t -> t.include(0, 0, 0));
        Check.undoable("include", t -> t.include(0, 0, 15));
        Check.undoableAfter(u -> Check.fillRow(u, 5), "include", t -> t.include(3, 5, 15));
    }

    // ---- promise 5: exclude

    static void promise05_exclude_replica0IsTaken() {
        CausalTable t = new CausalTable();
        t.include(0, 1, 5);
        Check.due("exclude", t.exclude(0, 1, 5), 1);
        Check.due("elements", t.elements(0, 1), 0);
    }

    static void promise05_exclude_replica3IsTaken() {
        CausalTable t = new CausalTable();
        t.include(3, 1, 5);
        Check.due("exclude", t.exclude(3, 1, 5), 1);
        Check.due("elements", t.elements(3, 1), 0);
    }

    static void promise05_exclude_replicaMinus1IsRefused() {
        Check.refusesReplica("exclude", -1, (t, r, row) -> t.exclude(r, row, 1));
    }

    static void promise05_exclude_replica4IsRefused() {
        Check.refusesReplica("exclude", 4, (t, r, row) -> t.exclude(r, row, 1));
    }

    static void promise05_exclude_row0IsTaken() {
        CausalTable t = new CausalTable();
        t.include(1, 0, 5);
        Check.due("exclude", t.exclude(1, 0, 5), 1);
        Check.due("elements", t.elements(1, 0), 0);
    }

    static void promise05_exclude_row5IsTaken() {
        CausalTable t = new CausalTable();
        t.include(1, 5, 5);
        Check.due("exclude", t.exclude(1, 5, 5), 1);
        Check.due("elements", t.elements(1, 5), 0);
    }

    static void promise05_exclude_rowMinus1IsRefused() {
        Check.refusesRow("exclude", -1, (t, r, row) -> t.exclude(r, row, 1));
    }

    static void promise05_exclude_row6IsRefused() {
        Check.refusesRow("exclude", 6, (t, r, row) -> t.exclude(r, row, 1));
    }

    static void promise05_exclude_replicaOrRowFarOffIsRefused() {
        Check.refusesFarOff("exclude", (t, r, row) -> t.exclude(r, row, 1));
    }

    static void promise05_exclude_element0IsTaken() {
        CausalTable t = new CausalTable();
        t.include(3, 5, 0);
        t.include(3, 5, 1);
        Check.due("exclude", t.exclude(3, 5, 0), 1);
        Check.due("elements", t.elements(3, 5), 2);
    }

    static void promise05_exclude_element15IsTaken() {
        CausalTable t = new CausalTable();
        t.include(3, 5, 15);
        t.include(3, 5, 14);
        Check.due("exclude", t.exclude(3, 5, 15), 1);
        Check.due("elements", t.elements(3, 5), 1 << 14);
    }

    static void promise05_exclude_elementMinus1IsRefused() {
        Check.refuses(Check.ARGUMENT, "exclude(0, 0, -1)", t -> t.exclude(0, 0, -1));
        Check.refuses(Check.ARGUMENT, "exclude(3, 5, -1)", t -> t.exclude(3, 5, -1));
    }

    static void promise05_exclude_element16IsRefused() {
        Check.refuses(Check.ARGUMENT, "exclude(0, 0, 16)", t -> t.exclude(0, 0, 16));
        Check.refuses(Check.ARGUMENT, "exclude(3, 5, 16)", t -> t.exclude(3, 5, 16));
    }

    static void promise05_exclude_elementFarOffIsRefused() {
        for (int far : Check.FAR_OFF) {
            Check.refuses(Check.ARGUMENT, "exclude of " + far, t -> t.exclude(0, 0, far));
        }
        Check.refuses(Check.ARGUMENT, "exclude of 32", t -> t.exclude(0, 0, 32));
        Check.refuses(Check.ARGUMENT, "exclude of -32", t -> t.exclude(0, 0, -32));
    }

    static void promise05_exclude_wrongReplicaComesBeforeAWrongElement() {
        Check.refuses(Check.BOUNDS, "exclude(4, 0, 16)", t -> t.exclude(4, 0, 16));
        Check.refuses(Check.BOUNDS, "exclude(-1, 0, -1)", t -> t.exclude(-1, 0, -1));
    }

    static void promise05_exclude_wrongRowComesBeforeAWrongElement() {
        Check.refuses(Check.BOUNDS, "exclude(0, 6, 16)", t -> t.exclude(0, 6, 16));
        Check.refuses(Check.BOUNDS, "exclude(0, -1, -1)", t -> t.exclude(0, -1, -1));
    }

    static void promise05_exclude_fromAnEmptyCellRemovesNone() {
        CausalTable t = new CausalTable();
        Check.due("exclude", t.exclude(1, 1, 8), 0);
        Check.due("entries", t.entries(1, 1, SET), 0);
        Check.due("exists", t.exists(1, 1), false);
    }

    static void promise05_exclude_ofNothingIsAnUpdateStill() {
        CausalTable t = new CausalTable();
        t.exclude(1, 1, 8);
        dueNumbers(t, 1);
    }

    static void promise05_exclude_ofNothingIsSavedStill() {
        CausalTable t = new CausalTable();
        t.exclude(1, 1, 8);
        Check.due("savedStates", t.savedStates(), 1);
        Check.undoable("exclude", u -> u.exclude(2, 2, 8));
    }

    static void promise05_exclude_leavesTheNeighbours() {
        CausalTable t = new CausalTable();
        t.include(1, 1, 7);
        t.include(1, 1, 8);
        t.include(1, 1, 9);
        Check.due("exclude", t.exclude(1, 1, 8), 1);
        Check.due("elements", t.elements(1, 1), 5 << 7);
        Check.due("exclude again", t.exclude(1, 1, 8), 0);
        Check.due("entries", t.entries(1, 1, SET), 2);
    }

    static void promise05_exclude_fromAFullCellRemovesFourOf64() {
        CausalTable t = Check.made(u -> Check.fillRow(u, 5));
        for (int element = 0; element < 16; element++) {
            Check.due("exclude", t.exclude(3, 5, element), 4);
            Check.due("entries", t.entries(3, 5, SET), 60 - 4 * element);
        }
        Check.due("elements", t.elements(3, 5), 0);
        Check.due("elements of replica 2", t.elements(2, 5), 0xFFFF);
        Check.due("entries of COUNTER", t.entries(3, 5, COUNTER), 4);
    }

    static void promise05_exclude_makesNoEntry() {
        CausalTable t = new CausalTable();
        t.include(0, 0, 3);
        t.merge(0, 1);
        t.exclude(0, 0, 3);
        Check.due("entries", t.entries(0, 0, SET), 0);
        Check.due("added", t.ifMerged(0, 1, 2), 0);
        Check.due("removed", t.ifMerged(0, 1, 3), 1);
    }

    static void promise05_exclude_leavesWhatItHasNotSeen() {
        CausalTable t = new CausalTable();
        t.include(0, 0, 3);
        Check.due("exclude", t.exclude(1, 0, 3), 0);
        Check.due("merge", t.merge(0, 1), 1);
        Check.due("elements", t.elements(1, 0), 1 << 3);
        Check.due("merge back", t.merge(1, 0), 0);
        Check.due("elements", t.elements(0, 0), 1 << 3);
    }

    static void promise05_exclude_isUndoable() {
        Check.undoable("exclude", t -> t.exclude(0, 0, 15));
        Check.undoableAfter(u -> Check.fillRow(u, 5), "exclude", t -> t.exclude(3, 5, 15));
    }

    // ---- promise 6: delete

    static void promise06_delete_replica0IsTaken() {
        CausalTable t = new CausalTable();
        t.put(0, 1, LATEST, 5);
        Check.due("delete", t.delete(0, 1), 1);
        Check.due("exists", t.exists(0, 1), false);
    }

    static void promise06_delete_replica3IsTaken() {
        CausalTable t = new CausalTable();
        t.put(3, 1, LATEST, 5);
        Check.due("delete", t.delete(3, 1), 1);
        Check.due("exists", t.exists(3, 1), false);
    }

    static void promise06_delete_replicaMinus1IsRefused() {
        Check.refusesReplica("delete", -1, (t, r, row) -> t.delete(r, row));
    }

    static void promise06_delete_replica4IsRefused() {
        Check.refusesReplica("delete", 4, (t, r, row) -> t.delete(r, row));
    }

    static void promise06_delete_row0IsTaken() {
        CausalTable t = new CausalTable();
        t.put(1, 0, LATEST, 5);
        t.put(1, 1, LATEST, 5);
        Check.due("delete", t.delete(1, 0), 1);
        Check.due("exists", t.exists(1, 0), false);
        Check.due("exists", t.exists(1, 1), true);
    }

    static void promise06_delete_row5IsTaken() {
        CausalTable t = new CausalTable();
        t.put(1, 5, LATEST, 5);
        t.include(1, 4, 15);
        t.put(2, 0, LATEST, 5);
        Check.due("delete", t.delete(1, 5), 1);
        Check.due("exists", t.exists(1, 5), false);
        Check.due("exists", t.exists(1, 4), true);
        Check.due("exists", t.exists(2, 0), true);
    }

    static void promise06_delete_rowMinus1IsRefused() {
        Check.refusesRow("delete", -1, (t, r, row) -> t.delete(r, row));
    }

    static void promise06_delete_row6IsRefused() {
        Check.refusesRow("delete", 6, (t, r, row) -> t.delete(r, row));
    }

    static void promise06_delete_replicaOrRowFarOffIsRefused() {
        Check.refusesFarOff("delete", (t, r, row) -> t.delete(r, row));
    }

    static void promise06_delete_ofAnEmptyRowRemovesNone() {
        CausalTable t = new CausalTable();
        Check.due("delete", t.delete(2, 4), 0);
        Check.due("exists", t.exists(2, 4), false);
    }

    static void promise06_delete_ofAnEmptyRowIsAnUpdateStill() {
        CausalTable t = new CausalTable();
        t.delete(2, 4);
        dueNumbers(t, 2);
    }

    static void promise06_delete_ofAnEmptyRowIsSavedStill() {
        CausalTable t = new CausalTable();
        t.delete(2, 4);
        Check.due("savedStates", t.savedStates(), 1);
        Check.undoable("delete", u -> u.delete(2, 4));
    }

    static void promise06_delete_ofOneEntryInEachColumnRemovesIt() {
        for (String text : new String[] {"l24,0", "v24,0", "g24,0", "a24,1", "i24,0", "i24,15"}) {
            CausalTable t = Check.ran(text);
            Check.due("delete after " + text, t.delete(2, 4), 1);
            Check.due("exists", t.exists(2, 4), false);
            for (int column = LATEST; column <= SET; column++) {
                Check.due("entries", t.entries(2, 4, column), 0);
            }
        }
    }

    static void promise06_delete_ofAFullRowRemovesAll80() {
        CausalTable t = Check.made(u -> Check.fillRow(u, 5));
        Check.due("delete", t.delete(3, 5), 80);
        for (int column = LATEST; column <= SET; column++) {
            Check.due("entries", t.entries(3, 5, column), 0);
        }
        Check.due("merge of the deletion", t.merge(3, 2), 80);
        Check.due("exists", t.exists(2, 5), false);
        Check.due("exists", t.exists(1, 5), true);
        Check.due("delete again", t.delete(3, 5), 0);
    }

    static void promise06_delete_leavesTheRowsBesideIt() {
        CausalTable t = new CausalTable();
        for (int row = 2; row <= 4; row++) {
            Check.makeRow(t, 1, row);
            Check.makeRow(t, 2, row);
        }
        Check.due("delete", t.delete(1, 3), 20);
        Check.due("delete of the row before", t.delete(1, 2), 20);
        Check.due("delete of the row behind", t.delete(1, 4), 20);
        Check.due("delete of another replica's row", t.delete(2, 3), 20);
    }

    static void promise06_delete_makesNoEntry() {
        CausalTable t = new CausalTable();
        t.put(0, 0, LATEST, 3);
        t.merge(0, 1);
        t.delete(0, 0);
        Check.due("added", t.ifMerged(0, 1, 2), 0);
        Check.due("removed", t.ifMerged(0, 1, 3), 1);
    }

    static void promise06_delete_leavesWhatItHasNotSeen() {
        CausalTable t = new CausalTable();
        t.put(0, 0, LATEST, 3);
        Check.due("delete", t.delete(1, 0), 0);
        Check.due("merge", t.merge(0, 1), 1);
        Check.due("latest", t.latest(1, 0), 3);
    }

    static void promise06_delete_isUndoable() {
        Check.undoable("delete", t -> t.delete(0, 0));
        Check.undoable("delete", t -> t.delete(3, 5));
        Check.undoableAfter(u -> Check.fillRow(u, 5), "delete", t -> t.delete(3, 5));
    }
}
