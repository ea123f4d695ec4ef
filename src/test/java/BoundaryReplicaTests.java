/** The boundary cases of promises 22 to 26: seen, clock, relation, conflicts, agreement. */
public final class BoundaryReplicaTests {
    private static final int LATEST = CausalTable.LATEST;
    private static final int SIBLINGS = CausalTable.SIBLINGS;
    private static final int SET = CausalTable.SET;
    private static final int EQUAL = CausalTable.EQUAL;
    private static final int BEFORE = CausalTable.BEFORE;
    private static final int AFTER = CausalTable.AFTER;
    private static final int CONCURRENT = CausalTable.CONCURRENT;

    public static void main(String[] args) {
        Check.runAll(BoundaryReplicaTests.class, 22, 23, 24, 25, 26);
    }

    // ---- promise 22: seen

    static void promise22_seen_eachReplicaHasANumberForEach() {
        CausalTable t = Check.ran("d00;d10;d10;d20;d20;d20;d30;d30;d30;d30;m01;m12;m23");
        int[][] want = {{1, 0, 0, 0}, {1, 2, 0, 0}, {1, 2, 3, 0}, {1, 2, 3, 4}};
        for (int r = 0; r < 4; r++) {
            for (int other = 0; other < 4; other++) {
                Check.due("seen", t.seen(r, other), want[r][other]);
            }
        }
    }

    static void promise22_seen_replicaMinus1IsRefused() {
        Check.refuses(Check.BOUNDS, "seen(-1, 0)", t -> t.seen(-1, 0));
        Check.refuses(Check.BOUNDS, "seen(-1, 3)", t -> t.seen(-1, 3));
    }

    static void promise22_seen_replica4IsRefused() {
        Check.refuses(Check.BOUNDS, "seen(4, 0)", t -> t.seen(4, 0));
        Check.refuses(Check.BOUNDS, "seen(4, 3)", t -> t.seen(4, 3));
    }

    static void promise22_seen_otherMinus1IsRefused() {
        Check.refuses(Check.BOUNDS, "seen(0, -1)", t -> t.seen(0, -1));
        Check.refuses(Check.BOUNDS, "seen(3, -1)", t -> t.seen(3, -1));
    }

    static void promise22_seen_other4IsRefused() {
        Check.refuses(Check.BOUNDS, "seen(0, 4)", t -> t.seen(0, 4));
        Check.refuses(Check.BOUNDS, "seen(3, 4)", t -> t.seen(3, 4));
    }

    static void promise22_seen_farOffIsRefused() {
        for (int far : Check.FAR_OFF) {
            Check.refuses(Check.BOUNDS, "seen of replica " + far, t -> t.seen(far, 0));
            Check.refuses(Check.BOUNDS, "seen of other " + far, t -> t.seen(0, far));
        }
    }

    static void promise22_seen_is0AtFirst() {
        Check.due("seen", new CausalTable().seen(3, 3), 0);
        Check.due("seen", new CausalTable().seen(0, 3), 0);
    }

    static void promise22_seen_eachUpdateAdds1ToItsOwn() {
        CausalTable t = new CausalTable();
        t.put(2, 0, LATEST, 1);
        Check.due("seen", t.seen(2, 2), 1);
        t.add(2, 0, 1);
        Check.due("seen", t.seen(2, 2), 2);
        t.include(2, 0, 1);
        Check.due("seen", t.seen(2, 2), 3);
        t.exclude(2, 0, 1);
        Check.due("seen", t.seen(2, 2), 4);
        t.delete(2, 0);
        Check.due("seen", t.seen(2, 2), 5);
        Check.due("seen of another", t.seen(2, 1) + t.seen(2, 3) + t.seen(3, 2), 0);
    }

    static void promise22_seen_ofAReplicaThatMergesStays() {
        CausalTable t = Check.ran("d00;d00;m01");
        Check.due("seen", t.seen(1, 0), 2);
        Check.due("seen", t.seen(1, 1), 0);
        Check.due("seen", t.seen(0, 1), 0);
    }

    static void promise22_seen_changesNothing() {
        Check.changesNothing("seen(0, 3)", t -> t.seen(0, 3));
    }

    // ---- promise 23: clock

    static void promise23_clock_replica0IsTaken() {
        Check.due("clock", Check.ran("d00").clock(0), 1);
        Check.due("clock", Check.ran("d10;d20;d30").clock(0), 0);
    }

    static void promise23_clock_replica3IsTaken() {
        Check.due("clock", Check.ran("d30").clock(3), 1);
        Check.due("clock", Check.ran("d00;d10;d20").clock(3), 0);
    }

    static void promise23_clock_replicaMinus1IsRefused() {
        Check.refuses(Check.BOUNDS, "clock(-1)", t -> t.clock(-1));
    }

    static void promise23_clock_replica4IsRefused() {
        Check.refuses(Check.BOUNDS, "clock(4)", t -> t.clock(4));
    }

    static void promise23_clock_farOffIsRefused() {
        for (int far : Check.FAR_OFF) {
            Check.refuses(Check.BOUNDS, "clock(" + far + ")", t -> t.clock(far));
        }
    }

    static void promise23_clock_is0AtFirst() {
        Check.due("clock", new CausalTable().clock(0), 0);
        Check.due("clock", new CausalTable().clock(3), 0);
    }

    static void promise23_clock_eachUpdateAdds1() {
        CausalTable t = new CausalTable();
        t.put(2, 0, LATEST, 1);
        Check.due("clock", t.clock(2), 1);
        t.add(2, 0, 1);
        Check.due("clock", t.clock(2), 2);
        t.include(2, 0, 1);
        Check.due("clock", t.clock(2), 3);
        t.exclude(2, 0, 1);
        Check.due("clock", t.clock(2), 4);
        t.delete(2, 0);
        Check.due("clock", t.clock(2), 5);
        Check.due("clock of another", t.clock(1) + t.clock(3), 0);
    }

    static void promise23_clock_aMergeAddsNone() {
        CausalTable t = Check.ran("d00;d10;m01;m01;m10");
        Check.due("clock", t.clock(0), 1);
        Check.due("clock", t.clock(1), 1);
    }

    static void promise23_clock_mayBeFarAboveTheCalls() {
        CausalTable t = Check.written("d00;".repeat(19) + "d00");
        for (int i = 0; i < 400; i++) {
            t.runText();
        }
        Check.due("clock", t.clock(0), 8000);
        Check.due("seen", t.seen(0, 0), 8000);
    }

    static void promise23_clock_changesNothing() {
        Check.changesNothing("clock(0)", t -> t.clock(0));
    }

    // ---- promise 24: relation

    static void promise24_relation_aMinus1IsRefused() {
        Check.refuses(Check.BOUNDS, "relation(-1, 0)", t -> t.relation(-1, 0));
        Check.refuses(Check.BOUNDS, "relation(-1, 3)", t -> t.relation(-1, 3));
    }

    static void promise24_relation_a4IsRefused() {
        Check.refuses(Check.BOUNDS, "relation(4, 0)", t -> t.relation(4, 0));
        Check.refuses(Check.BOUNDS, "relation(4, 3)", t -> t.relation(4, 3));
    }

    static void promise24_relation_bMinus1IsRefused() {
        Check.refuses(Check.BOUNDS, "relation(0, -1)", t -> t.relation(0, -1));
        Check.refuses(Check.BOUNDS, "relation(3, -1)", t -> t.relation(3, -1));
    }

    static void promise24_relation_b4IsRefused() {
        Check.refuses(Check.BOUNDS, "relation(0, 4)", t -> t.relation(0, 4));
        Check.refuses(Check.BOUNDS, "relation(3, 4)", t -> t.relation(3, 4));
    }

    static void promise24_relation_noReplicaTwiceIsRefused() {
        Check.refuses(Check.BOUNDS, "relation(-1, -1)", t -> t.relation(-1, -1));
        Check.refuses(Check.BOUNDS, "relation(4, 4)", t -> t.relation(4, 4));
    }

    static void promise24_relation_farOffIsRefused() {
        for (int far : Check.FAR_OFF) {
            Check.refuses(Check.BOUNDS, "relation of a " + far, t -> t.relation(far, 0));
            Check.refuses(Check.BOUNDS, "relation of b " + far, t -> t.relation(0, far));
        }
    }

    static void promise24_relation_toItselfIsEqual() {
        CausalTable t = Check.made(Check::used);
        for (int r = 0; r < 4; r++) {
            Check.due("relation", t.relation(r, r), EQUAL);
        }
    }

    static void promise24_relation_ofEmptyReplicasIsEqual() {
        CausalTable t = new CausalTable();
        for (int r = 0; r < 4; r++) {
            Check.due("relation", t.relation(0, r), EQUAL);
        }
    }

    static void promise24_relation_oneMoreUpdateIsAfter() {
        for (int a = 0; a < 4; a++) {
            CausalTable t = new CausalTable();
            t.delete(a, 0);
            for (int b = 0; b < 4; b++) {
                if (a != b) {
                    Check.due("relation", t.relation(a, b), AFTER);
                    Check.due("relation", t.relation(b, a), BEFORE);
                }
            }
        }
    }

    static void promise24_relation_oneUpdateOfAThirdIsAfter() {
        for (int third = 0; third < 4; third++) {
            int a = (third + 1) % 4;
            int b = (third + 2) % 4;
            CausalTable t = new CausalTable();
            t.delete(third, 0);
            t.merge(third, a);
            Check.due("relation", t.relation(a, b), AFTER);
            Check.due("relation", t.relation(b, a), BEFORE);
            Check.due("relation", t.relation(third, a), EQUAL);
        }
    }

    static void promise24_relation_oneUpdateOfEachIsConcurrent() {
        for (int a = 0; a < 4; a++) {
            for (int b = 0; b < 4; b++) {
                if (a != b) {
                    CausalTable t = new CausalTable();
                    t.delete(a, 0);
                    t.delete(b, 0);
                    t.delete(b, 0);
                    Check.due("relation", t.relation(a, b), CONCURRENT);
                }
            }
        }
    }

    static void promise24_relation_afterOneMergeIsBeforeAndAfter() {
        CausalTable t = Check.ran("d00;d30;m03");
        Check.due("relation", t.relation(0, 3), BEFORE);
        Check.due("relation", t.relation(3, 0), AFTER);
    }

    static void promise24_relation_afterBothMergesIsEqual() {
        CausalTable t = Check.ran("d00;d30;m03;m30");
        Check.due("relation", t.relation(0, 3), EQUAL);
        Check.due("relation", t.relation(3, 0), EQUAL);
    }

    static void promise24_relation_isOfSeenVectorsNotOfCellsOrClocks() {
        // 0 and 1 hold the same empty cells; the clock of 1 is greater, and it has not seen 0.
        CausalTable t = Check.ran("d00;d10;d10;d10");
        Check.due("relation", t.relation(0, 1), CONCURRENT);
        Check.due("agreement", t.agreement(), 1.0);
    }

    static void promise24_relation_changesNothing() {
        Check.changesNothing("relation(0, 3)", t -> t.relation(0, 3));
    }

    // ---- promise 25: conflicts

    static void promise25_conflicts_replicas0And3AreTaken() {
        Check.due("conflicts", Check.ran("v00,1;v10,1;m10").conflicts(0), 1);
        Check.due("conflicts", Check.ran("v30,1;v10,1;m13").conflicts(3), 1);
    }

    static void promise25_conflicts_replicaMinus1IsRefused() {
        Check.refuses(Check.BOUNDS, "conflicts(-1)", t -> t.conflicts(-1));
    }

    static void promise25_conflicts_replica4IsRefused() {
        Check.refuses(Check.BOUNDS, "conflicts(4)", t -> t.conflicts(4));
    }

    static void promise25_conflicts_farOffIsRefused() {
        for (int far : Check.FAR_OFF) {
            Check.refuses(Check.BOUNDS, "conflicts(" + far + ")", t -> t.conflicts(far));
        }
    }

    static void promise25_conflicts_ofEmptyCellsAre0() {
        Check.due("conflicts", new CausalTable().conflicts(3), 0);
    }

    static void promise25_conflicts_oneEntryIsNone() {
        Check.due("conflicts", Check.ran("v00,1;v00,2").conflicts(0), 0);
    }

    static void promise25_conflicts_twoEntriesAreOne() {
        CausalTable t = Check.ran("v00,1;v10,2;m01");
        Check.due("conflicts", t.conflicts(1), 1);
        Check.due("conflicts of from", t.conflicts(0), 0);
    }

    static void promise25_conflicts_twoEqualValuesAreOne() {
        Check.due("conflicts", Check.ran("v00,1;v10,1;m01").conflicts(1), 1);
    }

    static void promise25_conflicts_threeAndFourEntriesAreOne() {
        CausalTable t = Check.ran("v00,1;v10,2;v20,3;m03;m13;m23");
        Check.due("entries", t.entries(3, 0, SIBLINGS), 3);
        Check.due("conflicts", t.conflicts(3), 1);
        t = Check.ran("v00,1;v10,2;v20,3;v30,4;m03;m13;m23");
        Check.due("entries", t.entries(3, 0, SIBLINGS), 4);
        Check.due("conflicts", t.conflicts(3), 1);
    }

    static void promise25_conflicts_ofAllRowsAre6() {
        CausalTable t = new CausalTable();
        for (int row = 0; row < 6; row++) {
            t.put(0, row, SIBLINGS, 1);
            t.put(1, row, SIBLINGS, 1);
            t.merge(0, 1);
            Check.due("conflicts", t.conflicts(1), row + 1);
        }
    }

    static void promise25_conflicts_rows0And5Count() {
        Check.due("conflicts", Check.ran("v00,1;v10,2;m01").conflicts(1), 1);
        Check.due("conflicts", Check.ran("v05,1;v15,2;m01").conflicts(1), 1);
    }

    static void promise25_conflicts_otherColumnsDoNotCount() {
        CausalTable t = Check.ran("l00,1;g00,1;a00,1;i00,1;l10,1;g10,1;a10,1;i10,1;i10,2;m01");
        Check.due("entries", t.entries(1, 0, LATEST), 2);
        Check.due("conflicts", t.conflicts(1), 0);
    }

    static void promise25_conflicts_aPutEndsOne() {
        CausalTable t = Check.ran("v00,1;v10,2;m01;v10,3");
        Check.due("conflicts", t.conflicts(1), 0);
    }

    static void promise25_conflicts_changesNothing() {
        Check.changesNothing("conflicts(0)", t -> t.conflicts(0));
    }

    // ---- promise 26: agreement

    static void promise26_agreement_ofEmptyTablesIs1() {
        Check.due("agreement", new CausalTable().agreement(), 1.0);
    }

    static void promise26_agreement_oneEntryOfAnyReplicaAndColumnIsOneLess() {
        for (int r = 0; r < 4; r++) {
            for (String text : new String[] {"lr0,0", "vr1,0", "gr2,0", "ar3,1", "ir4,0",
                "ir5,15", "lr5,0"}) {
                CausalTable t = Check.ran(text.replace("r", "" + r));
                Check.due("agreement after " + text, t.agreement(), 29.0 / 30.0);
            }
        }
    }

    static void promise26_agreement_threeReplicasThatHoldItAreNotAll() {
        for (int without = 0; without < 4; without++) {
            CausalTable t = new CausalTable();
            int maker = (without + 1) % 4;
            t.put(maker, 0, LATEST, 1);
            for (int r = 0; r < 4; r++) {
                if (r != maker && r != without) {
                    t.merge(maker, r);
                }
            }
            Check.due("agreement", t.agreement(), 29.0 / 30.0);
            t.merge(maker, without);
            Check.due("agreement", t.agreement(), 1.0);
        }
    }

    static void promise26_agreement_sameValuesWithOtherMarksDoNotAgree() {
        CausalTable t = Check.ran("l00,1;l10,1;l20,1;l30,1");
        Check.due("agreement", t.agreement(), 29.0 / 30.0);
    }

    static void promise26_agreement_sameMakerAndValueWithAnotherNumberDoNotAgree() {
        CausalTable t = Check.ran("l00,1;m01;m02;m03;l00,1");
        Check.due("agreement", t.agreement(), 29.0 / 30.0);
    }

    static void promise26_agreement_someOfTheEntriesAreNotAll() {
        CausalTable t = Check.ran("v00,1;v10,1");
        t.mergeAll();
        Check.due("agreement", t.agreement(), 1.0);
        t.put(3, 0, SIBLINGS, 1);
        t.merge(3, 2);
        Check.due("agreement", t.agreement(), 29.0 / 30.0);
    }

    static void promise26_agreement_ofFullRowsIs1() {
        CausalTable t = Check.made(u -> Check.fillRow(u, 5));
        Check.due("agreement", t.agreement(), 1.0);
        t.exclude(0, 5, 0);
        Check.due("agreement", t.agreement(), 29.0 / 30.0);
        t.delete(0, 5);
        Check.due("agreement", t.agreement(), 25.0 / 30.0);
    }

    static void promise26_agreement_eachCellCountsDownTo0() {
        CausalTable t = new CausalTable();
        int cells = 30;
        for (int row = 0; row < 6; row++) {
            for (int column = LATEST; column <= SET; column++) {
                int r = (row + column) % 4;
                if (column < 3) {
                    t.put(r, row, column, 1);
                } else if (column == 3) {
                    t.add(r, row, 1);
                } else {
                    t.include(r, row, row);
                }
                cells--;
                Check.due("agreement", t.agreement(), (double) cells / 30.0);
            }
        }
        Check.due("agreement", t.agreement(), 0.0);
    }

    static void promise26_agreement_knowledgeThatDiffersDoesNotCount() {
        Check.due("agreement", Check.ran("d00;d10;d10").agreement(), 1.0);
    }

    static void promise26_agreement_changesNothing() {
        Check.changesNothing("agreement()", CausalTable::agreement);
    }
}
