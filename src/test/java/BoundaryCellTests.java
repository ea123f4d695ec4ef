/** The boundary cases of promises 14 to 21: latest, sibling, greatest, counter, elements .. mean. */
public final class BoundaryCellTests {
    private static final int LATEST = CausalTable.LATEST;
    private static final int SIBLINGS = CausalTable.SIBLINGS;
    private static final int GREATEST = CausalTable.GREATEST;
    private static final int COUNTER = CausalTable.COUNTER;
    private static final int SET = CausalTable.SET;

    public static void main(String[] args) {
        Check.runAll(BoundaryCellTests.class, 14, 15, 16, 17, 18, 19, 20, 21);
    }

    /** Four replicas put these values into a cell of row 5, then all are merged. */
    private static CausalTable four(int column, int... values) {
        CausalTable t = new CausalTable();
        for (int r = 0; r < 4; r++) {
            t.put(r, 5, column, values[r]);
        }
        t.mergeAll();
        return t;
    }

    // ---- promise 14: latest

    static void promise14_latest_replicas0And3AreTaken() {
        CausalTable t = Check.ran("l02,5;l32,6");
        Check.due("latest", t.latest(0, 2), 5);
        Check.due("latest", t.latest(3, 2), 6);
    }

    static void promise14_latest_rows0And5AreTaken() {
        CausalTable t = Check.ran("l20,5;l25,6");
        Check.due("latest", t.latest(2, 0), 5);
        Check.due("latest", t.latest(2, 5), 6);
    }

    static void promise14_latest_replicaMinus1IsRefused() {
        Check.refusesReplica("latest", -1, CausalTable::latest);
    }

    static void promise14_latest_replica4IsRefused() {
        Check.refusesReplica("latest", 4, CausalTable::latest);
    }

    static void promise14_latest_rowMinus1IsRefused() {
        Check.refusesRow("latest", -1, CausalTable::latest);
    }

    static void promise14_latest_row6IsRefused() {
        Check.refusesRow("latest", 6, CausalTable::latest);
    }

    static void promise14_latest_farOffIsRefused() {
        Check.refusesFarOff("latest", CausalTable::latest);
    }

    static void promise14_latest_ofAnEmptyCellIsNone() {
        Check.due("latest", new CausalTable().latest(3, 5), CausalTable.NONE);
        Check.due("latest", Check.ran("l00,1;d00").latest(0, 0), CausalTable.NONE);
        Check.due("latest", Check.ran("v00,1;g00,1;a00,1;i00,1").latest(0, 0), CausalTable.NONE);
    }

    static void promise14_latest_value0IsNotNone() {
        Check.due("latest", Check.ran("l35,0").latest(3, 5), 0);
    }

    static void promise14_latest_greatestStampWinsByOne() {
        CausalTable t = Check.ran("l20,1;l20,2;l30,3;m32");
        Check.due("latest", t.latest(2, 0), 2);
        t = Check.ran("l30,1;l30,2;l20,3;m32");
        Check.due("latest", t.latest(2, 0), 2);
        t = Check.ran("l20,1;l30,2;l30,3;m32");
        Check.due("latest", t.latest(2, 0), 3);
    }

    static void promise14_latest_ofEqualStampsTheGreatestReplicaWins() {
        for (int low = 0; low < 4; low++) {
            for (int high = low + 1; high < 4; high++) {
                CausalTable t = new CausalTable();
                // The value of the one that wins is the smaller one.
                t.put(low, 0, LATEST, 9);
                t.put(high, 0, LATEST, 1);
                t.merge(low, high);
                Check.due("latest", t.latest(high, 0), 1);
                t.merge(high, low);
                Check.due("latest", t.latest(low, 0), 1);
            }
        }
    }

    static void promise14_latest_ofFourEqualStampsReplica3Wins() {
        CausalTable t = four(LATEST, 30, 20, 10, 0);
        for (int r = 0; r < 4; r++) {
            Check.due("latest", t.latest(r, 5), 0);
            Check.due("entries", t.entries(r, 5, LATEST), 4);
        }
    }

    static void promise14_latest_greaterStampWinsOverAGreaterReplica() {
        CausalTable t = Check.ran("d00;l00,7;l10,1;l20,2;l30,3");
        t.mergeAll();
        Check.due("latest", t.latest(3, 0), 7);
        Check.due("latest", t.latest(0, 0), 7);
    }

    static void promise14_latest_stampIsTheClockNotTheNumber() {
        // 1 has learned the clock 3 of 0, so its first update has the number 1 and the stamp 4.
        CausalTable t = Check.ran("d01;d01;d01;m01;l10,5;l20,1;l20,2;l20,3;m21");
        Check.due("latest", t.latest(1, 0), 5);
    }

    static void promise14_latest_columnAndRowBesideItDoNotCount() {
        CausalTable t = new CausalTable();
        t.put(1, 1, LATEST, 2);
        for (int r = 0; r < 4; r++) {
            // These entries have greater stamps.
            t.delete(r, 5);
            t.delete(r, 5);
            t.put(r, 1, SIBLINGS, 9);
            t.include(r, 0, 15);
        }
        t.mergeAll();
        Check.due("latest", t.latest(0, 1), 2);
    }

    static void promise14_latest_changesNothing() {
        Check.changesNothing("latest(0, 0)", t -> t.latest(0, 0));
    }

    // ---- promise 15: sibling

    static void promise15_sibling_replicas0And3AreTaken() {
        CausalTable t = Check.ran("v02,5;v32,6");
        Check.due("sibling", t.sibling(0, 2, 0), 5);
        Check.due("sibling", t.sibling(3, 2, 0), 6);
    }

    static void promise15_sibling_rows0And5AreTaken() {
        CausalTable t = Check.ran("v20,5;v25,6");
        Check.due("sibling", t.sibling(2, 0, 0), 5);
        Check.due("sibling", t.sibling(2, 5, 0), 6);
    }

    static void promise15_sibling_replicaMinus1IsRefused() {
        Check.refusesReplica("sibling", -1, (t, r, row) -> t.sibling(r, row, 0));
    }

    static void promise15_sibling_replica4IsRefused() {
        Check.refusesReplica("sibling", 4, (t, r, row) -> t.sibling(r, row, 0));
    }

    static void promise15_sibling_rowMinus1IsRefused() {
        Check.refusesRow("sibling", -1, (t, r, row) -> t.sibling(r, row, 0));
    }

    static void promise15_sibling_row6IsRefused() {
        Check.refusesRow("sibling", 6, (t, r, row) -> t.sibling(r, row, 0));
    }

    static void promise15_sibling_farOffIsRefused() {
        Check.refusesFarOff("sibling", (t, r, row) -> t.sibling(r, row, 0));
    }

    static void promise15_sibling_indexMinus1IsRefused() {
        Check.refuses(Check.BOUNDS, "sibling(0, 0, -1)", t -> t.sibling(0, 0, -1));
        Check.refuses(Check.BOUNDS, "sibling(3, 5, -1)", t -> t.sibling(3, 5, -1));
    }

    static void promise15_sibling_indexFarBelow0IsRefused() {
        for (int far : Check.FAR_OFF) {
            if (far < 0) {
                Check.refuses(Check.BOUNDS, "sibling of index " + far, t -> t.sibling(3, 5, far));
            }
        }
    }

    static void promise15_sibling_index0IsTheSmallest() {
        Check.due("sibling", four(SIBLINGS, 30, 10, 20, 40).sibling(0, 5, 0), 10);
    }

    static void promise15_sibling_index3OfFourIsTheGreatest() {
        CausalTable t = four(SIBLINGS, 30, 40, 20, 10);
        Check.due("sibling", t.sibling(0, 5, 3), 40);
    }

    static void promise15_sibling_index4OfFourIsNone() {
        CausalTable t = four(SIBLINGS, 30, 40, 20, 10);
        Check.due("sibling", t.sibling(0, 5, 4), CausalTable.NONE);
        Check.due("sibling", t.sibling(0, 5, 5), CausalTable.NONE);
    }

    static void promise15_sibling_index1OfOneIsNone() {
        CausalTable t = Check.ran("v35,7");
        Check.due("sibling", t.sibling(3, 5, 0), 7);
        Check.due("sibling", t.sibling(3, 5, 1), CausalTable.NONE);
    }

    static void promise15_sibling_indexFarBehindIsNone() {
        CausalTable t = four(SIBLINGS, 30, 40, 20, 10);
        for (int far : Check.FAR_OFF) {
            if (far > 0) {
                Check.due("sibling of index " + far, t.sibling(3, 5, far), CausalTable.NONE);
            }
        }
        Check.due("sibling of index 256", t.sibling(3, 5, 256), CausalTable.NONE);
    }

    static void promise15_sibling_ofAnEmptyCellIsNone() {
        Check.due("sibling", new CausalTable().sibling(3, 5, 0), CausalTable.NONE);
        Check.due("sibling", Check.ran("v00,1;d00").sibling(0, 0, 0), CausalTable.NONE);
        Check.due("sibling", Check.ran("l00,1;g00,1").sibling(0, 0, 0), CausalTable.NONE);
    }

    static void promise15_sibling_value0IsNotNone() {
        Check.due("sibling", Check.ran("v35,0").sibling(3, 5, 0), 0);
    }

    /** All answers for a cell of four entries, whichever replica made which. */
    private static void dueSiblings(CausalTable t, int... want) {
        for (int r = 0; r < 4; r++) {
            for (int index = 0; index < 4; index++) {
                Check.due("sibling of index " + index, t.sibling(r, 5, index), want[index]);
            }
        }
    }

    static void promise15_sibling_valuesAscendWhoeverMadeThem() {
        for (int a = 0; a < 4; a++) {
            for (int b = 0; b < 4; b++) {
                for (int c = 0; c < 4; c++) {
                    int d = 6 - a - b - c;
                    if (a != b && b != c && a != c) {
                        dueSiblings(four(SIBLINGS, a, b, c, d), 0, 1, 2, 3);
                    }
                }
            }
        }
    }

    static void promise15_sibling_anEqualValueOccursAsOftenAsItWasPut() {
        dueSiblings(four(SIBLINGS, 5, 5, 3, 9), 3, 5, 5, 9);
        dueSiblings(four(SIBLINGS, 9, 5, 3, 5), 3, 5, 5, 9);
        dueSiblings(four(SIBLINGS, 5, 5, 5, 3), 3, 5, 5, 5);
        dueSiblings(four(SIBLINGS, 7, 3, 7, 3), 3, 3, 7, 7);
        dueSiblings(four(SIBLINGS, 999, 999, 999, 999), 999, 999, 999, 999);
        dueSiblings(four(SIBLINGS, 0, 0, 0, 0), 0, 0, 0, 0);
    }

    static void promise15_sibling_columnsBesideItDoNotCount() {
        CausalTable t = new CausalTable();
        for (int r = 0; r < 4; r++) {
            t.put(r, 3, LATEST, 1);
            t.put(r, 3, SIBLINGS, 500);
            t.put(r, 3, GREATEST, 1);
        }
        t.mergeAll();
        for (int index = 0; index < 4; index++) {
            Check.due("sibling of index " + index, t.sibling(0, 3, index), 500);
        }
        Check.due("sibling of index 4", t.sibling(0, 3, 4), CausalTable.NONE);
    }

    static void promise15_sibling_changesNothing() {
        Check.changesNothing("sibling(3, 5, 0)", t -> t.sibling(3, 5, 0));
    }

    // ---- promise 16: greatest

    static void promise16_greatest_replicas0And3AreTaken() {
        CausalTable t = Check.ran("g02,5;g32,6");
        Check.due("greatest", t.greatest(0, 2), 5);
        Check.due("greatest", t.greatest(3, 2), 6);
    }

    static void promise16_greatest_rows0And5AreTaken() {
        CausalTable t = Check.ran("g20,5;g25,6");
        Check.due("greatest", t.greatest(2, 0), 5);
        Check.due("greatest", t.greatest(2, 5), 6);
    }

    static void promise16_greatest_replicaMinus1IsRefused() {
        Check.refusesReplica("greatest", -1, CausalTable::greatest);
    }

    static void promise16_greatest_replica4IsRefused() {
        Check.refusesReplica("greatest", 4, CausalTable::greatest);
    }

    static void promise16_greatest_rowMinus1IsRefused() {
        Check.refusesRow("greatest", -1, CausalTable::greatest);
    }

    static void promise16_greatest_row6IsRefused() {
        Check.refusesRow("greatest", 6, CausalTable::greatest);
    }

    static void promise16_greatest_farOffIsRefused() {
        Check.refusesFarOff("greatest", CausalTable::greatest);
    }

    static void promise16_greatest_ofAnEmptyCellIsNone() {
        Check.due("greatest", new CausalTable().greatest(3, 5), CausalTable.NONE);
        Check.due("greatest", Check.ran("g00,1;d00").greatest(0, 0), CausalTable.NONE);
        Check.due("greatest", Check.ran("v00,1;a00,1").greatest(0, 0), CausalTable.NONE);
    }

    static void promise16_greatest_value0IsNotNone() {
        Check.due("greatest", Check.ran("g35,0").greatest(3, 5), 0);
    }

    static void promise16_greatest_ofFourEntriesWhoeverMadeTheGreatest() {
        for (int best = 0; best < 4; best++) {
            int[] values = {1, 2, 3, 4};
            values[best] = 999;
            CausalTable t = four(GREATEST, values);
            Check.due("greatest", t.greatest(0, 5), 999);
            Check.due("greatest", t.greatest(3, 5), 999);
            Check.due("entries", t.entries(3, 5, GREATEST), 4);
        }
    }

    static void promise16_greatest_columnsBesideItDoNotCount() {
        CausalTable t = Check.ran("v00,9;v10,9;v20,9;v30,9;g00,2;a00,9;a10,9;a20,9;a30,9");
        t.mergeAll();
        Check.due("greatest", t.greatest(0, 0), 2);
    }

    static void promise16_greatest_afterADeletionStartsAnew() {
        CausalTable t = Check.ran("g00,10;d00;g00,1");
        Check.due("greatest", t.greatest(0, 0), 1);
    }

    static void promise16_greatest_changesNothing() {
        Check.changesNothing("greatest(2, 0)", t -> t.greatest(2, 0));
    }

    // ---- promise 17: counter

    static void promise17_counter_replicas0And3AreTaken() {
        CausalTable t = Check.ran("a02,5;a32,6");
        Check.due("counter", t.counter(0, 2), 5);
        Check.due("counter", t.counter(3, 2), 6);
    }

    static void promise17_counter_rows0And5AreTaken() {
        CausalTable t = Check.ran("a20,5;a25,6");
        Check.due("counter", t.counter(2, 0), 5);
        Check.due("counter", t.counter(2, 5), 6);
    }

    static void promise17_counter_replicaMinus1IsRefused() {
        Check.refusesReplica("counter", -1, CausalTable::counter);
    }

    static void promise17_counter_replica4IsRefused() {
        Check.refusesReplica("counter", 4, CausalTable::counter);
    }

    static void promise17_counter_rowMinus1IsRefused() {
        Check.refusesRow("counter", -1, CausalTable::counter);
    }

    static void promise17_counter_row6IsRefused() {
        Check.refusesRow("counter", 6, CausalTable::counter);
    }

    static void promise17_counter_farOffIsRefused() {
        Check.refusesFarOff("counter", CausalTable::counter);
    }

    static void promise17_counter_ofAnEmptyCellIs0() {
        Check.due("counter", new CausalTable().counter(3, 5), 0);
        Check.due("counter", Check.ran("a00,7;d00").counter(0, 0), 0);
        Check.due("counter", Check.ran("g00,7;i00,7").counter(0, 0), 0);
    }

    static void promise17_counter_ofEntriesThatMakeUp0Is0() {
        CausalTable t = Check.ran("a00,7;a10,-7;m01");
        Check.due("counter", t.counter(1, 0), 0);
        Check.due("entries", t.entries(1, 0, COUNTER), 2);
    }

    static void promise17_counter_columnsBesideItDoNotCount() {
        CausalTable t = Check.ran("g00,9;g10,9;g20,9;g30,9;a00,2;i00,1;i10,1;i20,1;i30,1;i00,0");
        t.mergeAll();
        Check.due("counter", t.counter(0, 0), 2);
    }

    static void promise17_counter_below0IsTold() {
        Check.due("counter", Check.ran("a00,1;a00,-2").counter(0, 0), -1);
    }

    static void promise17_counter_ofFourEntriesIsTheirSum() {
        CausalTable t = Check.ran("a05,99;a15,-50;a25,99;a35,7");
        t.mergeAll();
        for (int r = 0; r < 4; r++) {
            Check.due("counter", t.counter(r, 5), 155);
            Check.due("entries", t.entries(r, 5, COUNTER), 4);
        }
    }

    static void promise17_counter_mayBeFarAboveOneAmount() {
        CausalTable t = Check.written("a35,99;".repeat(11) + "d00");
        for (int i = 0; i < 400; i++) {
            t.runText();
        }
        Check.due("counter", t.counter(3, 5), 400 * 11 * 99);
    }

    static void promise17_counter_mayBeFarBelowOneAmount() {
        CausalTable t = Check.written("a35,-99;".repeat(9) + "a35,-99");
        for (int i = 0; i < 400; i++) {
            t.runText();
        }
        Check.due("counter", t.counter(3, 5), -400 * 10 * 99);
    }

    static void promise17_counter_changesNothing() {
        Check.changesNothing("counter(0, 5)", t -> t.counter(0, 5));
    }

    // ---- promise 18: elements

    static void promise18_elements_replicas0And3AreTaken() {
        CausalTable t = Check.ran("i02,5;i32,6");
        Check.due("elements", t.elements(0, 2), 1 << 5);
        Check.due("elements", t.elements(3, 2), 1 << 6);
    }

    static void promise18_elements_rows0And5AreTaken() {
        CausalTable t = Check.ran("i20,5;i25,6");
        Check.due("elements", t.elements(2, 0), 1 << 5);
        Check.due("elements", t.elements(2, 5), 1 << 6);
    }

    static void promise18_elements_replicaMinus1IsRefused() {
        Check.refusesReplica("elements", -1, CausalTable::elements);
    }

    static void promise18_elements_replica4IsRefused() {
        Check.refusesReplica("elements", 4, CausalTable::elements);
    }

    static void promise18_elements_rowMinus1IsRefused() {
        Check.refusesRow("elements", -1, CausalTable::elements);
    }

    static void promise18_elements_row6IsRefused() {
        Check.refusesRow("elements", 6, CausalTable::elements);
    }

    static void promise18_elements_farOffIsRefused() {
        Check.refusesFarOff("elements", CausalTable::elements);
    }

    static void promise18_elements_ofAnEmptyCellIs0() {
        Check.due("elements", new CausalTable().elements(3, 5), 0);
        Check.due("elements", Check.ran("i00,7;e00,7").elements(0, 0), 0);
        Check.due("elements", Check.ran("i00,7;d00").elements(0, 0), 0);
        Check.due("elements", Check.ran("a00,7;l01,7").elements(0, 0), 0);
    }

    static void promise18_elements_bit0IsForTheElement0() {
        Check.due("elements", Check.ran("i00,0").elements(0, 0), 1);
    }

    static void promise18_elements_bit15IsForTheElement15() {
        Check.due("elements", Check.ran("i00,15").elements(0, 0), 32768);
    }

    static void promise18_elements_eachElementHasItsBit() {
        for (int element = 0; element < 16; element++) {
            CausalTable t = Check.ran("i00," + element);
            Check.due("elements", t.elements(0, 0), 1 << element);
        }
    }

    static void promise18_elements_ofAFullSetIs65535() {
        CausalTable t = Check.made(u -> Check.makeRow(u, 3, 5));
        Check.due("elements", t.elements(3, 5), 65535);
        t = Check.made(u -> Check.fillRow(u, 5));
        Check.due("elements of 64 entries", t.elements(0, 5), 65535);
    }

    static void promise18_elements_columnAndRowBesideItDoNotCount() {
        CausalTable t = Check.ran("a00,3;a10,3;a20,3;a30,3;l01,4;l11,4;l21,4;l31,4;i00,2");
        t.mergeAll();
        Check.due("elements", t.elements(0, 0), 1 << 2);
    }

    static void promise18_elements_severalEntriesOfAnElementAreOneBit() {
        CausalTable t = Check.ran("i00,3;i10,3;i20,3;i30,3");
        t.mergeAll();
        Check.due("entries", t.entries(0, 0, SET), 4);
        Check.due("elements", t.elements(0, 0), 1 << 3);
    }

    static void promise18_elements_changesNothing() {
        Check.changesNothing("elements(0, 0)", t -> t.elements(0, 0));
    }

    // ---- promise 19: entries

    static void promise19_entries_replicas0And3AreTaken() {
        CausalTable t = Check.ran("l02,5;l32,6");
        Check.due("entries", t.entries(0, 2, LATEST), 1);
        Check.due("entries", t.entries(3, 2, LATEST), 1);
    }

    static void promise19_entries_rows0And5AreTaken() {
        CausalTable t = Check.ran("l20,5;i25,15");
        Check.due("entries", t.entries(2, 0, LATEST), 1);
        Check.due("entries", t.entries(2, 5, SET), 1);
    }

    static void promise19_entries_replicaMinus1IsRefused() {
        Check.refusesReplica("entries", -1, (t, r, row) -> t.entries(r, row, SET));
    }

    static void promise19_entries_replica4IsRefused() {
        Check.refusesReplica("entries", 4, (t, r, row) -> t.entries(r, row, LATEST));
    }

    static void promise19_entries_rowMinus1IsRefused() {
        Check.refusesRow("entries", -1, (t, r, row) -> t.entries(r, row, SET));
    }

    static void promise19_entries_row6IsRefused() {
        Check.refusesRow("entries", 6, (t, r, row) -> t.entries(r, row, LATEST));
    }

    static void promise19_entries_farOffIsRefused() {
        Check.refusesFarOff("entries", (t, r, row) -> t.entries(r, row, LATEST));
        for (int far : Check.FAR_OFF) {
            Check.refuses(Check.BOUNDS, "entries of column " + far, t -> t.entries(0, 0, far));
        }
    }

    static void promise19_entries_columnMinus1IsRefused() {
        Check.refuses(Check.BOUNDS, "entries(0, 0, -1)", t -> t.entries(0, 0, -1));
        Check.refuses(Check.BOUNDS, "entries(3, 5, -1)", t -> t.entries(3, 5, -1));
    }

    static void promise19_entries_column5IsRefused() {
        Check.refuses(Check.BOUNDS, "entries(0, 0, 5)", t -> t.entries(0, 0, 5));
        Check.refuses(Check.BOUNDS, "entries(3, 5, 5)", t -> t.entries(3, 5, 5));
    }

    static void promise19_entries_columnLatestIsTaken() {
        Check.due("entries", Check.ran("l00,1").entries(0, 0, LATEST), 1);
    }

    static void promise19_entries_columnSetIsTaken() {
        Check.due("entries", Check.ran("i00,0;i00,15").entries(0, 0, SET), 2);
    }

    static void promise19_entries_ofAnEmptyCellIs0BesideFullOnes() {
        String[] texts = {"v00,1;g00,1;a00,1;i00,0", "l00,1;g00,1;a00,1;i00,0",
            "l00,1;v00,1;a00,1;i00,0", "l00,1;v00,1;g00,1;i00,0", "l00,1;v00,1;g00,1;a00,1"};
        for (int column = LATEST; column <= SET; column++) {
            Check.due("entries", Check.ran(texts[column]).entries(0, 0, column), 0);
        }
    }

    static void promise19_entries_ofAFullCellAre4And64InSet() {
        CausalTable t = Check.made(u -> Check.fillRow(u, 5));
        for (int r = 0; r < 4; r++) {
            for (int column = LATEST; column <= COUNTER; column++) {
                Check.due("entries", t.entries(r, 5, column), 4);
                Check.due("entries of the row before", t.entries(r, 4, column), 0);
            }
            Check.due("entries", t.entries(r, 5, SET), 64);
        }
    }

    static void promise19_entries_withEqualValuesAllCount() {
        CausalTable t = four(SIBLINGS, 5, 5, 5, 5);
        Check.due("entries", t.entries(0, 5, SIBLINGS), 4);
    }

    static void promise19_entries_changesNothing() {
        Check.changesNothing("entries(0, 0, 0)", t -> t.entries(0, 0, LATEST));
    }

    // ---- promise 20: exists

    static void promise20_exists_replicas0And3AreTaken() {
        CausalTable t = Check.ran("l02,5;l32,6");
        Check.due("exists", t.exists(0, 2), true);
        Check.due("exists", t.exists(3, 2), true);
        Check.due("exists", t.exists(1, 2), false);
        Check.due("exists", t.exists(2, 2), false);
    }

    static void promise20_exists_rows0And5AreTaken() {
        CausalTable t = Check.ran("l20,5;l25,6");
        Check.due("exists", t.exists(2, 0), true);
        Check.due("exists", t.exists(2, 5), true);
        Check.due("exists", t.exists(2, 1), false);
        Check.due("exists", t.exists(2, 4), false);
    }

    static void promise20_exists_replicaMinus1IsRefused() {
        Check.refusesReplica("exists", -1, CausalTable::exists);
    }

    static void promise20_exists_replica4IsRefused() {
        Check.refusesReplica("exists", 4, CausalTable::exists);
    }

    static void promise20_exists_rowMinus1IsRefused() {
        Check.refusesRow("exists", -1, CausalTable::exists);
    }

    static void promise20_exists_row6IsRefused() {
        Check.refusesRow("exists", 6, CausalTable::exists);
    }

    static void promise20_exists_farOffIsRefused() {
        Check.refusesFarOff("exists", CausalTable::exists);
    }

    static void promise20_exists_emptyRowDoesNot() {
        Check.due("exists", new CausalTable().exists(3, 5), false);
    }

    static void promise20_exists_byOneEntryOfAnyColumn() {
        for (String text : new String[] {"l23,0", "v23,0", "g23,0", "a23,1", "i23,0", "i23,15"}) {
            CausalTable t = Check.ran(text);
            for (int r = 0; r < 4; r++) {
                for (int row = 0; row < 6; row++) {
                    Check.due("exists after " + text, t.exists(r, row), r == 2 && row == 3);
                }
            }
        }
    }

    static void promise20_exists_byACounterOf0() {
        Check.due("exists", Check.ran("a23,1;a23,-1").exists(2, 3), true);
    }

    static void promise20_exists_notAfterADeletion() {
        Check.due("exists", Check.ran("l23,1;i23,1;d23").exists(2, 3), false);
    }

    static void promise20_exists_notAfterTheLastElementIsExcluded() {
        Check.due("exists", Check.ran("i23,0;i23,15;e23,0").exists(2, 3), true);
        Check.due("exists", Check.ran("i23,0;i23,15;e23,0;e23,15").exists(2, 3), false);
    }

    static void promise20_exists_atAnotherReplicaFromTheMergeOn() {
        CausalTable t = Check.ran("l23,1");
        Check.due("exists", t.exists(0, 3), false);
        t.merge(2, 0);
        Check.due("exists", t.exists(0, 3), true);
    }

    static void promise20_exists_changesNothing() {
        Check.changesNothing("exists(0, 0)", t -> t.exists(0, 0));
    }

    // ---- promise 21: mean

    static void promise21_mean_replicas0And3AreTaken() {
        CausalTable t = Check.ran("v02,5;v32,6");
        Check.due("mean", t.mean(0, 2), 5.0f);
        Check.due("mean", t.mean(3, 2), 6.0f);
    }

    static void promise21_mean_rows0And5AreTaken() {
        CausalTable t = Check.ran("v20,5;v25,6");
        Check.due("mean", t.mean(2, 0), 5.0f);
        Check.due("mean", t.mean(2, 5), 6.0f);
    }

    static void promise21_mean_replicaMinus1IsRefused() {
        Check.refusesReplica("mean", -1, CausalTable::mean);
    }

    static void promise21_mean_replica4IsRefused() {
        Check.refusesReplica("mean", 4, CausalTable::mean);
    }

    static void promise21_mean_rowMinus1IsRefused() {
        Check.refusesRow("mean", -1, CausalTable::mean);
    }

    static void promise21_mean_row6IsRefused() {
        Check.refusesRow("mean", 6, CausalTable::mean);
    }

    static void promise21_mean_farOffIsRefused() {
        Check.refusesFarOff("mean", CausalTable::mean);
    }

    static void promise21_mean_ofAnEmptyCellIs0() {
        Check.due("mean", new CausalTable().mean(3, 5), 0.0f);
        Check.due("mean", Check.ran("v00,7;d00").mean(0, 0), 0.0f);
        Check.due("mean", Check.ran("l00,7;g00,7;a00,7").mean(0, 0), 0.0f);
    }

    static void promise21_mean_ofTheValue0Is0() {
        Check.due("mean", Check.ran("v35,0").mean(3, 5), 0.0f);
    }

    static void promise21_mean_ofOneEntryIsItsValue() {
        Check.due("mean", Check.ran("v35,999").mean(3, 5), 999.0f);
    }

    static void promise21_mean_isNotRounded() {
        Check.due("mean", Check.ran("v00,1;v10,0;m01").mean(1, 0), 0.5f);
        Check.due("mean", Check.ran("v00,1;v10,0;v20,0;m01;m21").mean(1, 0), 1.0f / 3.0f);
        Check.due("mean", Check.ran("v00,1;v10,1;v20,0;m01;m21").mean(1, 0), 2.0f / 3.0f);
        Check.due("mean", four(SIBLINGS, 0, 0, 0, 1).mean(0, 5), 0.25f);
    }

    static void promise21_mean_isDividedAsFloats() {
        for (int sum = 1; sum <= 999; sum++) {
            CausalTable t = new CausalTable();
            t.put(0, 0, SIBLINGS, sum);
            t.put(1, 0, SIBLINGS, 0);
            t.put(2, 0, SIBLINGS, 0);
            t.merge(0, 2);
            t.merge(1, 2);
            Check.due("mean", t.mean(2, 0), (float) sum / (float) 3);
        }
    }

    static void promise21_mean_ofFourGreatestValuesIs999() {
        CausalTable t = four(SIBLINGS, 999, 999, 999, 999);
        for (int r = 0; r < 4; r++) {
            Check.due("mean", t.mean(r, 5), 999.0f);
        }
    }

    static void promise21_mean_columnsBesideItDoNotCount() {
        CausalTable t = Check.ran("l00,9;l10,9;l20,9;l30,9;v00,2;g00,9;g10,9;g20,9;g30,9");
        t.mergeAll();
        Check.due("mean", t.mean(0, 0), 2.0f);
    }

    static void promise21_mean_equalValuesAllCount() {
        Check.due("mean", four(SIBLINGS, 5, 5, 5, 9).mean(0, 5), 6.0f);
    }

    static void promise21_mean_changesNothing() {
        Check.changesNothing("mean(3, 5)", t -> t.mean(3, 5));
    }
}
