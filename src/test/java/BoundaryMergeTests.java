/** The boundary cases of promises 7, 8, 27 and 28: merge, mergeAll, latestMerge, ifMerged. */
public final class BoundaryMergeTests {
    private static final int LATEST = CausalTable.LATEST;
    private static final int SIBLINGS = CausalTable.SIBLINGS;
    private static final int GREATEST = CausalTable.GREATEST;
    private static final int COUNTER = CausalTable.COUNTER;
    private static final int SET = CausalTable.SET;
    private static final int ADDED = 2;
    private static final int REMOVED = 3;

    public static void main(String[] args) {
        Check.runAll(BoundaryMergeTests.class, 7, 8, 27, 28);
    }

    private static void dueLatestMerge(CausalTable t, int from, int to, int added, int removed) {
        Check.due("latestMerge(0)", t.latestMerge(0), from);
        Check.due("latestMerge(1)", t.latestMerge(1), to);
        Check.due("latestMerge(2)", t.latestMerge(2), added);
        Check.due("latestMerge(3)", t.latestMerge(3), removed);
    }

    /** What ifMerged foretells, and then the merge itself. */
    private static void dueMerge(CausalTable t, int from, int to, int added, int removed) {
        Check.due("ifMerged of added", t.ifMerged(from, to, ADDED), added);
        Check.due("ifMerged of removed", t.ifMerged(from, to, REMOVED), removed);
        Check.due("merge", t.merge(from, to), added + removed);
        dueLatestMerge(t, from, to, added, removed);
    }

    private static void dueSeen(CausalTable t, int replica, int... numbers) {
        for (int other = 0; other < 4; other++) {
            Check.due("seen(" + replica + ", " + other + ")", t.seen(replica, other),
                    numbers[other]);
        }
    }

    // ---- promise 7: merge

    static void promise07_merge_from0To3IsTaken() {
        CausalTable t = new CausalTable();
        t.put(0, 0, LATEST, 5);
        dueMerge(t, 0, 3, 1, 0);
        Check.due("latest", t.latest(3, 0), 5);
    }

    static void promise07_merge_from3To0IsTaken() {
        CausalTable t = new CausalTable();
        t.put(3, 0, LATEST, 5);
        dueMerge(t, 3, 0, 1, 0);
        Check.due("latest", t.latest(0, 0), 5);
    }

    static void promise07_merge_ofEachPairReachesNoThird() {
        for (int from = 0; from < 4; from++) {
            for (int to = 0; to < 4; to++) {
                if (from != to) {
                    CausalTable t = new CausalTable();
                    t.put(from, 0, LATEST, 5);
                    dueMerge(t, from, to, 1, 0);
                    for (int r = 0; r < 4; r++) {
                        Check.due("exists", t.exists(r, 0), r == from || r == to);
                    }
                }
            }
        }
    }

    static void promise07_merge_fromMinus1IsRefused() {
        Check.refuses(Check.BOUNDS, "merge(-1, 0)", t -> t.merge(-1, 0));
        Check.refuses(Check.BOUNDS, "merge(-1, 3)", t -> t.merge(-1, 3));
    }

    static void promise07_merge_from4IsRefused() {
        Check.refuses(Check.BOUNDS, "merge(4, 0)", t -> t.merge(4, 0));
        Check.refuses(Check.BOUNDS, "merge(4, 3)", t -> t.merge(4, 3));
    }

    static void promise07_merge_toMinus1IsRefused() {
        Check.refuses(Check.BOUNDS, "merge(0, -1)", t -> t.merge(0, -1));
        Check.refuses(Check.BOUNDS, "merge(3, -1)", t -> t.merge(3, -1));
    }

    static void promise07_merge_to4IsRefused() {
        Check.refuses(Check.BOUNDS, "merge(0, 4)", t -> t.merge(0, 4));
        Check.refuses(Check.BOUNDS, "merge(3, 4)", t -> t.merge(3, 4));
    }

    static void promise07_merge_farOffIsRefused() {
        for (int far : Check.FAR_OFF) {
            Check.refuses(Check.BOUNDS, "merge from " + far, t -> t.merge(far, 1));
            Check.refuses(Check.BOUNDS, "merge to " + far, t -> t.merge(1, far));
        }
    }

    static void promise07_merge_ofAReplicaIntoItselfIsRefused() {
        for (int replica = 0; replica < 4; replica++) {
            int same = replica;
            Check.refuses(Check.ARGUMENT, "merge of the same", t -> t.merge(same, same));
        }
    }

    static void promise07_merge_noReplicaComesBeforeTheSame() {
        Check.refuses(Check.BOUNDS, "merge(-1, -1)", t -> t.merge(-1, -1));
        Check.refuses(Check.BOUNDS, "merge(4, 4)", t -> t.merge(4, 4));
    }

    static void promise07_merge_ofTwoEmptyReplicasChangesNoCell() {
        CausalTable t = new CausalTable();
        dueMerge(t, 1, 2, 0, 0);
        Check.due("agreement", t.agreement(), 1.0);
        Check.due("exists", t.exists(2, 0), false);
    }

    static void promise07_merge_thatChangesNothingIsSavedStill() {
        CausalTable t = new CausalTable();
        t.merge(1, 2);
        Check.due("savedStates", t.savedStates(), 1);
        t.merge(1, 2);
        Check.due("savedStates", t.savedStates(), 2);
    }

    static void promise07_merge_thatChangesNothingIsTheLatestStill() {
        CausalTable t = new CausalTable();
        t.put(0, 0, LATEST, 1);
        t.merge(0, 1);
        t.merge(0, 1);
        dueLatestMerge(t, 0, 1, 0, 0);
    }

    static void promise07_merge_intoAnEmptyReplicaAddsAll() {
        CausalTable t = new CausalTable();
        Check.makeRow(t, 1, 0);
        Check.makeRow(t, 1, 5);
        dueMerge(t, 1, 2, 40, 0);
        for (int row = 0; row < 6; row += 5) {
            Check.due("latest", t.latest(2, row), 2);
            Check.due("sibling", t.sibling(2, row, 0), 2);
            Check.due("greatest", t.greatest(2, row), 2);
            Check.due("counter", t.counter(2, row), 2);
            Check.due("elements", t.elements(2, row), 0xFFFF);
        }
    }

    static void promise07_merge_fromAnEmptyReplicaRemovesNone() {
        CausalTable t = new CausalTable();
        Check.makeRow(t, 1, 0);
        Check.makeRow(t, 1, 5);
        dueMerge(t, 2, 1, 0, 0);
        Check.due("elements", t.elements(1, 5), 0xFFFF);
        Check.due("latest", t.latest(1, 0), 2);
    }

    static void promise07_merge_ofFullTablesAddsAndRemovesAll() {
        CausalTable t = new CausalTable();
        for (int r = 0; r < 4; r++) {
            for (int row = 0; row < 6; row++) {
                Check.makeRow(t, r, row);
            }
        }
        // These were 480 of the 512 calls.
        Check.due("merge", t.merge(0, 1), 120);
        Check.due("merge", t.merge(1, 2), 240);
        Check.due("merge", t.merge(2, 3), 360);
        for (int row = 0; row < 6; row++) {
            Check.due("delete", t.delete(3, row), 80);
        }
        Check.due("ifMerged", t.ifMerged(3, 2, REMOVED), 360);
        Check.due("ifMerged", t.ifMerged(3, 2, ADDED), 0);
        Check.due("merge of all deletions", t.merge(3, 2), 360);
        Check.due("latestMerge", t.latestMerge(REMOVED), 360);
        Check.due("merge of what was deleted", t.merge(1, 3), 0);
        for (int row = 0; row < 6; row++) {
            Check.due("exists", t.exists(2, row), false);
        }
    }

    static void promise07_merge_firstAndLastCellAreMerged() {
        CausalTable t = new CausalTable();
        t.put(0, 0, LATEST, 1);
        t.include(3, 5, 15);
        dueMerge(t, 0, 3, 1, 0);
        dueMerge(t, 3, 0, 1, 0);
        Check.due("latest", t.latest(3, 0), 1);
        Check.due("elements", t.elements(0, 5), 1 << 15);
        t.delete(1, 3);
        t.delete(0, 0);
        t.exclude(0, 5, 15);
        dueMerge(t, 0, 3, 0, 2);
    }

    static void promise07_merge_entryOfBothStaysUncounted() {
        CausalTable t = new CausalTable();
        t.put(0, 0, LATEST, 5);
        dueMerge(t, 0, 1, 1, 0);
        dueMerge(t, 0, 1, 0, 0);
        dueMerge(t, 1, 0, 0, 0);
        Check.due("entries", t.entries(0, 0, LATEST), 1);
        Check.due("entries", t.entries(1, 0, LATEST), 1);
    }

    static void promise07_merge_entryOfToAloneStaysIfFromHasNotSeenIt() {
        CausalTable t = new CausalTable();
        t.put(1, 0, SIBLINGS, 5);
        t.put(0, 0, SIBLINGS, 6);
        dueMerge(t, 0, 1, 1, 0);
        Check.due("sibling", t.sibling(1, 0, 0), 5);
        Check.due("sibling", t.sibling(1, 0, 1), 6);
    }

    static void promise07_merge_entryOfToAloneGoesIfFromHasSeenIt() {
        CausalTable t = new CausalTable();
        t.put(1, 0, SIBLINGS, 5);
        t.merge(1, 0);
        t.delete(0, 0);
        dueMerge(t, 0, 1, 0, 1);
        Check.due("entries", t.entries(1, 0, SIBLINGS), 0);
    }

    static void promise07_merge_entryOfFromAloneComesIfToHasNotSeenIt() {
        CausalTable t = new CausalTable();
        t.put(0, 0, SIBLINGS, 5);
        t.delete(1, 0);
        dueMerge(t, 0, 1, 1, 0);
        Check.due("sibling", t.sibling(1, 0, 0), 5);
    }

    static void promise07_merge_entryOfFromAloneStaysAwayIfToHasSeenIt() {
        CausalTable t = new CausalTable();
        t.put(0, 0, SIBLINGS, 5);
        t.merge(0, 1);
        t.delete(1, 0);
        dueMerge(t, 0, 1, 0, 0);
        Check.due("entries", t.entries(1, 0, SIBLINGS), 0);
        Check.due("entries of from", t.entries(0, 0, SIBLINGS), 1);
    }

    static void promise07_merge_toHasSeenJustTheNumbersUpToItsOwn() {
        CausalTable t = new CausalTable();
        t.put(0, 0, LATEST, 1);
        t.put(0, 1, LATEST, 2);
        t.merge(0, 1);
        t.delete(1, 0);
        t.delete(1, 1);
        t.put(0, 2, LATEST, 3);
        // 1 has seen the numbers 1 and 2 of 0: 2 is the last one seen, 3 the first one unseen.
        dueMerge(t, 0, 1, 1, 0);
        Check.due("latest of number 1", t.latest(1, 0), -1);
        Check.due("latest of number 2", t.latest(1, 1), -1);
        Check.due("latest of number 3", t.latest(1, 2), 3);
    }

    static void promise07_merge_fromHasSeenJustTheNumbersUpToItsOwn() {
        CausalTable t = new CausalTable();
        t.put(0, 0, LATEST, 1);
        t.put(0, 1, LATEST, 2);
        t.merge(0, 1);
        t.delete(1, 0);
        t.delete(1, 1);
        t.put(0, 2, LATEST, 3);
        dueMerge(t, 1, 0, 0, 2);
        Check.due("latest of number 1", t.latest(0, 0), -1);
        Check.due("latest of number 2", t.latest(0, 1), -1);
        Check.due("latest of number 3", t.latest(0, 2), 3);
    }

    static void promise07_merge_seenIsAskedOfTheMaker() {
        for (int maker = 0; maker < 4; maker++) {
            CausalTable t = new CausalTable();
            int other = (maker + 1) % 4;
            int third = (maker + 2) % 4;
            // The other one makes more updates, so that its numbers are greater.
            t.delete(other, 5);
            t.delete(other, 5);
            t.put(maker, 0, LATEST, 5);
            dueMerge(t, maker, other, 1, 0);
            t.delete(other, 0);
            dueMerge(t, other, third, 0, 0);
            dueMerge(t, third, maker, 0, 1);
        }
    }

    static void promise07_merge_deletionIsKnownAtThirdHand() {
        CausalTable t = new CausalTable();
        t.put(0, 0, LATEST, 1);
        t.merge(0, 1);
        t.merge(0, 2);
        t.delete(1, 0);
        dueMerge(t, 1, 3, 0, 0);
        dueMerge(t, 2, 3, 0, 0);
        Check.due("latest", t.latest(3, 0), -1);
        dueMerge(t, 3, 2, 0, 1);
        Check.due("latest", t.latest(2, 0), -1);
    }

    static void promise07_merge_olderEntryOfTheSameMakerIsReplaced() {
        for (int column = LATEST; column <= SET; column++) {
            CausalTable t = new CausalTable();
            update(t, column);
            t.merge(0, 1);
            update(t, column);
            dueMerge(t, 0, 1, 1, 1);
            Check.due("entries", t.entries(1, 0, column), 1);
        }
    }

    static void promise07_merge_olderEntryOfTheSameMakerStaysAway() {
        for (int column = LATEST; column <= SET; column++) {
            CausalTable t = new CausalTable();
            update(t, column);
            t.merge(0, 1);
            update(t, column);
            dueMerge(t, 1, 0, 0, 0);
            Check.due("entries", t.entries(0, 0, column), 1);
        }
    }

    private static void update(CausalTable t, int column) {
        if (column == COUNTER) {
            t.add(0, 0, 1);
        } else if (column == SET) {
            t.include(0, 0, 9);
        } else {
            t.put(0, 0, column, 1);
        }
    }

    static void promise07_merge_eachSeenNumberBecomesTheGreaterOne() {
        CausalTable t = Check.ran("d00;d00;d10;d20;d20;d20;m20;d20;m21");
        dueSeen(t, 0, 2, 0, 3, 0);
        dueSeen(t, 1, 0, 1, 4, 0);
        t.merge(0, 1);
        dueSeen(t, 1, 2, 1, 4, 0);
        dueSeen(t, 0, 2, 0, 3, 0);
        t.merge(1, 0);
        dueSeen(t, 0, 2, 1, 4, 0);
        t.merge(1, 3);
        dueSeen(t, 3, 2, 1, 4, 0);
    }

    static void promise07_merge_aSmallerClockBecomesTheOther() {
        CausalTable t = Check.ran("d00;d00;d00;d10;d10");
        t.merge(0, 1);
        Check.due("clock of to", t.clock(1), 3);
        Check.due("clock of from", t.clock(0), 3);
    }

    static void promise07_merge_anEqualClockStays() {
        CausalTable t = Check.ran("d00;d00;d10;d10");
        t.merge(0, 1);
        Check.due("clock of to", t.clock(1), 2);
    }

    static void promise07_merge_aGreaterClockStays() {
        CausalTable t = Check.ran("d00;d00;d10;d10;d10");
        t.merge(0, 1);
        Check.due("clock of to", t.clock(1), 3);
        Check.due("clock of from", t.clock(0), 2);
    }

    static void promise07_merge_theNextStampIsBehindTheMergedClock() {
        CausalTable t = Check.ran("d00;d00;d00;m01");
        t.put(1, 0, LATEST, 5);
        Check.due("clock", t.clock(1), 4);
        Check.due("seen", t.seen(1, 1), 1);
    }

    static void promise07_merge_fromAndTheOthersDoNotChange() {
        CausalTable t = Check.made(Check::used);
        CausalTable twin = Check.made(Check::used);
        t.merge(0, 2);
        for (int r = 0; r < 4; r++) {
            if (r != 2) {
                Check.same("replica " + r, Check.replica(t, r), Check.replica(twin, r));
            }
        }
    }

    static void promise07_merge_answersAddedAndRemovedTogether() {
        CausalTable t = new CausalTable();
        t.put(1, 0, LATEST, 1);
        t.merge(1, 0);
        t.delete(0, 0);
        t.put(0, 1, LATEST, 1);
        t.put(0, 1, SIBLINGS, 1);
        dueMerge(t, 0, 1, 2, 1);
    }

    static void promise07_merge_makesNoMark() {
        CausalTable t = new CausalTable();
        t.put(0, 0, LATEST, 1);
        t.merge(0, 1);
        dueSeen(t, 1, 1, 0, 0, 0);
        Check.due("clock", t.clock(1), 1);
    }

    static void promise07_merge_valuesComeAsTheyAre() {
        CausalTable t = Check.ran("l00,999;v00,0;g00,999;a00,-99;i00,0;m03");
        Check.due("latest", t.latest(3, 0), 999);
        Check.due("sibling", t.sibling(3, 0, 0), 0);
        Check.due("greatest", t.greatest(3, 0), 999);
        Check.due("counter", t.counter(3, 0), -99);
        Check.due("elements", t.elements(3, 0), 1);
    }

    static void promise07_merge_isUndoable() {
        Check.undoable("merge", t -> t.merge(0, 3));
        Check.undoable("merge", t -> t.merge(3, 0));
        Check.undoableAfter(u -> {
            Check.makeRow(u, 0, 5);
            u.merge(0, 1);
            u.delete(1, 5);
            u.put(1, 5, GREATEST, 7);
        }, "merge", t -> t.merge(1, 0));
    }

    // ---- promise 8: mergeAll

    static void promise08_mergeAll_ofNothingAnswers0() {
        CausalTable t = new CausalTable();
        Check.due("mergeAll", t.mergeAll(), 0);
        dueLatestMerge(t, 3, 0, 0, 0);
    }

    static void promise08_mergeAll_ofNothingIsSavedStill() {
        CausalTable t = new CausalTable();
        t.mergeAll();
        Check.due("savedStates", t.savedStates(), 1);
        Check.due("undo", t.undo(), 0);
        dueLatestMerge(t, -1, -1, -1, -1);
    }

    static void promise08_mergeAll_eachReplicasEntryTakesThree() {
        for (int r = 0; r < 4; r++) {
            CausalTable t = new CausalTable();
            t.put(r, 2, LATEST, 5);
            Check.due("mergeAll", t.mergeAll(), 3);
            for (int other = 0; other < 4; other++) {
                Check.due("latest", t.latest(other, 2), 5);
            }
        }
    }

    static void promise08_mergeAll_allSixChange() {
        CausalTable t = Check.ran("v00,1;v10,1;v20,1;v30,1");
        Check.due("mergeAll", t.mergeAll(), 6);
        dueLatestMerge(t, 3, 0, 3, 0);
        for (int r = 0; r < 4; r++) {
            Check.due("entries", t.entries(r, 0, SIBLINGS), 4);
        }
        Check.due("agreement", t.agreement(), 1.0);
    }

    static void promise08_mergeAll_againAnswers0() {
        CausalTable t = Check.ran("v00,1;v10,1;v20,1;v30,1");
        t.mergeAll();
        Check.due("mergeAll", t.mergeAll(), 0);
        dueLatestMerge(t, 3, 0, 0, 0);
    }

    static void promise08_mergeAll_onlyTheFirstChanges() {
        CausalTable t = Check.ran("v00,1;m02;m03");
        Check.due("mergeAll", t.mergeAll(), 1);
        Check.due("entries", t.entries(1, 0, SIBLINGS), 1);
    }

    static void promise08_mergeAll_onlyTheLastChanges() {
        CausalTable t = Check.ran("v30,1;m32;m31");
        Check.due("mergeAll", t.mergeAll(), 1);
        dueLatestMerge(t, 3, 0, 1, 0);
    }

    static void promise08_mergeAll_aMergeThatOnlyRemovesCounts() {
        for (int r = 0; r < 4; r++) {
            CausalTable t = Check.ran("v00,1;m01;m02;m03");
            t.delete(r, 0);
            Check.due("mergeAll", t.mergeAll(), 3);
            for (int other = 0; other < 4; other++) {
                Check.due("exists", t.exists(other, 0), false);
            }
        }
    }

    static void promise08_mergeAll_aMergeThatAddsAndRemovesCountsOnce() {
        CausalTable t = Check.ran("v00,1;m01;m02;m03;v00,2");
        Check.due("mergeAll", t.mergeAll(), 3);
    }

    static void promise08_mergeAll_aMergeOfKnowledgeAloneDoesNotCount() {
        CausalTable t = Check.ran("d00;d10;d20;d30");
        Check.due("mergeAll", t.mergeAll(), 0);
        for (int r = 0; r < 4; r++) {
            dueSeen(t, r, 1, 1, 1, 1);
            Check.due("relation", t.relation(0, r), CausalTable.EQUAL);
        }
    }

    static void promise08_mergeAll_allReplicasEndWithTheGreatestClock() {
        for (int r = 0; r < 4; r++) {
            CausalTable t = new CausalTable();
            t.delete(r, 0);
            t.delete(r, 0);
            t.delete((r + 1) % 4, 0);
            t.mergeAll();
            for (int other = 0; other < 4; other++) {
                Check.due("clock", t.clock(other), 2);
            }
        }
    }

    static void promise08_mergeAll_isUndoneAsOneCall() {
        Check.undoable("mergeAll", CausalTable::mergeAll);
        Check.undoableAfter(t -> Check.write(t, "v00,1;v10,1;v20,1;v30,1"), "mergeAll",
                CausalTable::mergeAll);
        Check.undoableAfter(u -> {
            u.put(0, 0, SIBLINGS, 1);
            u.put(1, 0, SIBLINGS, 1);
            u.put(2, 0, SIBLINGS, 1);
            u.put(3, 0, SIBLINGS, 1);
            u.merge(2, 1);
        }, "mergeAll", CausalTable::mergeAll);
    }

    // ---- promise 27: latestMerge

    static void promise27_latestMerge_partMinus1IsRefused() {
        Check.refuses(Check.ARGUMENT, "latestMerge(-1)", t -> t.latestMerge(-1));
    }

    static void promise27_latestMerge_part0IsTheReplicaThatWasMerged() {
        CausalTable t = new CausalTable();
        t.merge(2, 1);
        Check.due("latestMerge", t.latestMerge(0), 2);
    }

    static void promise27_latestMerge_part1IsTheReplicaIntoWhichItWas() {
        CausalTable t = new CausalTable();
        t.merge(2, 1);
        Check.due("latestMerge", t.latestMerge(1), 1);
    }

    static void promise27_latestMerge_part2IsWhatWasAdded() {
        CausalTable t = Check.ran("l00,1;l10,1;v10,1;m10");
        Check.due("latestMerge", t.latestMerge(2), 2);
    }

    static void promise27_latestMerge_part3IsWhatWasRemoved() {
        CausalTable t = Check.ran("l00,1;v00,1;m01;d10;m10");
        Check.due("latestMerge", t.latestMerge(3), 2);
        Check.due("latestMerge", t.latestMerge(2), 0);
    }

    static void promise27_latestMerge_part4IsRefused() {
        Check.refuses(Check.ARGUMENT, "latestMerge(4)", t -> t.latestMerge(4));
    }

    static void promise27_latestMerge_partFarOffIsRefused() {
        for (int far : Check.FAR_OFF) {
            Check.refuses(Check.ARGUMENT, "latestMerge(" + far + ")", t -> t.latestMerge(far));
        }
    }

    static void promise27_latestMerge_isNoneBeforeTheFirstMerge() {
        CausalTable t = Check.ran("l00,1;v10,1;d00");
        t.ifMerged(1, 0, ADDED);
        Check.thrown(t, u -> u.merge(1, 1));
        dueLatestMerge(t, -1, -1, -1, -1);
    }

    static void promise27_latestMerge_ofAMergeThatBringsNothingIs0And0() {
        CausalTable t = new CausalTable();
        t.merge(0, 1);
        dueLatestMerge(t, 0, 1, 0, 0);
    }

    static void promise27_latestMerge_laterMergeTakesItsPlace() {
        CausalTable t = Check.ran("l00,1;m01;m23");
        dueLatestMerge(t, 2, 3, 0, 0);
    }

    static void promise27_latestMerge_updatesLeaveIt() {
        CausalTable t = Check.ran("l30,1;m32");
        t.put(3, 0, LATEST, 2);
        t.add(3, 0, 2);
        t.include(3, 0, 2);
        t.exclude(3, 0, 2);
        t.delete(2, 0);
        dueLatestMerge(t, 3, 2, 1, 0);
    }

    static void promise27_latestMerge_refusedMergeLeavesIt() {
        CausalTable t = Check.ran("l30,1;m32");
        Check.thrown(t, u -> u.merge(1, 1));
        Check.thrown(t, u -> u.merge(0, 4));
        dueLatestMerge(t, 3, 2, 1, 0);
    }

    static void promise27_latestMerge_byMergeAllIsTheLastOfItsSix() {
        CausalTable t = Check.ran("l10,1;v10,1");
        t.mergeAll();
        dueLatestMerge(t, 3, 0, 2, 0);
    }

    static void promise27_latestMerge_byATextIsItsLast() {
        CausalTable t = Check.ran("l10,1;m12;v10,1;m10;d20");
        dueLatestMerge(t, 1, 0, 2, 0);
    }

    static void promise27_latestMerge_textWithoutAMergeLeavesIt() {
        CausalTable t = Check.ran("l30,1");
        t.merge(3, 2);
        Check.write(t, "l00,1;d10");
        t.runText();
        dueLatestMerge(t, 3, 2, 1, 0);
    }

    static void promise27_latestMerge_isRestoredByUndo() {
        CausalTable t = Check.ran("l30,1");
        t.merge(3, 2);
        t.merge(3, 1);
        dueLatestMerge(t, 3, 1, 1, 0);
        t.undo();
        dueLatestMerge(t, 3, 2, 1, 0);
        t.undo();
        dueLatestMerge(t, -1, -1, -1, -1);
    }

    static void promise27_latestMerge_changesNothing() {
        Check.changesNothing("latestMerge(0)", t -> t.latestMerge(0));
        Check.changesNothing("latestMerge(3)", t -> t.latestMerge(3));
    }

    // ---- promise 28: ifMerged

    static void promise28_ifMerged_from0To3IsTaken() {
        CausalTable t = Check.ran("l00,1;v00,1;l30,1");
        Check.due("ifMerged", t.ifMerged(0, 3, ADDED), 2);
    }

    static void promise28_ifMerged_from3To0IsTaken() {
        CausalTable t = Check.ran("l30,1;v30,1;l00,1");
        Check.due("ifMerged", t.ifMerged(3, 0, ADDED), 2);
    }

    static void promise28_ifMerged_fromMinus1IsRefused() {
        Check.refuses(Check.BOUNDS, "ifMerged(-1, 0, 2)", t -> t.ifMerged(-1, 0, 2));
    }

    static void promise28_ifMerged_from4IsRefused() {
        Check.refuses(Check.BOUNDS, "ifMerged(4, 0, 2)", t -> t.ifMerged(4, 0, 2));
    }

    static void promise28_ifMerged_toMinus1IsRefused() {
        Check.refuses(Check.BOUNDS, "ifMerged(0, -1, 3)", t -> t.ifMerged(0, -1, 3));
    }

    static void promise28_ifMerged_to4IsRefused() {
        Check.refuses(Check.BOUNDS, "ifMerged(0, 4, 3)", t -> t.ifMerged(0, 4, 3));
    }

    static void promise28_ifMerged_farOffIsRefused() {
        for (int far : Check.FAR_OFF) {
            Check.refuses(Check.BOUNDS, "ifMerged from " + far, t -> t.ifMerged(far, 1, 2));
            Check.refuses(Check.BOUNDS, "ifMerged to " + far, t -> t.ifMerged(1, far, 2));
            Check.refuses(Check.ARGUMENT, "ifMerged of part " + far, t -> t.ifMerged(0, 1, far));
        }
    }

    static void promise28_ifMerged_ofAReplicaIntoItselfIsRefused() {
        for (int replica = 0; replica < 4; replica++) {
            int same = replica;
            for (int part = ADDED; part <= REMOVED; part++) {
                int of = part;
                Check.refuses(Check.ARGUMENT, "ifMerged of the same",
                        t -> t.ifMerged(same, same, of));
            }
        }
    }

    static void promise28_ifMerged_part1IsRefused() {
        Check.refuses(Check.ARGUMENT, "ifMerged(0, 1, 1)", t -> t.ifMerged(0, 1, 1));
    }

    static void promise28_ifMerged_part0IsRefused() {
        Check.refuses(Check.ARGUMENT, "ifMerged(0, 1, 0)", t -> t.ifMerged(0, 1, 0));
    }

    static void promise28_ifMerged_partMinus1IsRefused() {
        Check.refuses(Check.ARGUMENT, "ifMerged(0, 1, -1)", t -> t.ifMerged(0, 1, -1));
    }

    static void promise28_ifMerged_part2IsWhatWouldBeAdded() {
        CausalTable t = Check.ran("l00,1;v10,1;m01;l10,2;v10,2;g10,2");
        Check.due("ifMerged", t.ifMerged(1, 0, 2), 3);
    }

    static void promise28_ifMerged_part3IsWhatWouldBeRemoved() {
        CausalTable t = Check.ran("l00,1;v10,1;m01;l10,2;v10,2;g10,2");
        Check.due("ifMerged", t.ifMerged(1, 0, 3), 1);
    }

    static void promise28_ifMerged_part4IsRefused() {
        Check.refuses(Check.ARGUMENT, "ifMerged(0, 1, 4)", t -> t.ifMerged(0, 1, 4));
    }

    static void promise28_ifMerged_noReplicaComesBeforeTheSame() {
        Check.refuses(Check.BOUNDS, "ifMerged(4, 4, 2)", t -> t.ifMerged(4, 4, 2));
        Check.refuses(Check.BOUNDS, "ifMerged(-1, -1, 2)", t -> t.ifMerged(-1, -1, 2));
    }

    static void promise28_ifMerged_noReplicaComesBeforeAWrongPart() {
        Check.refuses(Check.BOUNDS, "ifMerged(4, 0, 4)", t -> t.ifMerged(4, 0, 4));
        Check.refuses(Check.BOUNDS, "ifMerged(0, -1, 1)", t -> t.ifMerged(0, -1, 1));
    }

    static void promise28_ifMerged_theSameWithAWrongPartIsRefused() {
        Check.refuses(Check.ARGUMENT, "ifMerged(2, 2, 4)", t -> t.ifMerged(2, 2, 4));
    }

    static void promise28_ifMerged_ofEmptyReplicasIs0() {
        CausalTable t = new CausalTable();
        Check.due("ifMerged", t.ifMerged(0, 1, ADDED), 0);
        Check.due("ifMerged", t.ifMerged(0, 1, REMOVED), 0);
    }

    static void promise28_ifMerged_afterTheMergeIs0() {
        CausalTable t = Check.ran("l00,1;v10,1;m01");
        Check.due("ifMerged", t.ifMerged(0, 1, ADDED), 0);
        Check.due("ifMerged", t.ifMerged(0, 1, REMOVED), 0);
        Check.due("ifMerged the other way", t.ifMerged(1, 0, ADDED), 1);
    }

    static void promise28_ifMerged_ofAFullRowIs60() {
        CausalTable t = new CausalTable();
        for (int r = 0; r < 4; r++) {
            Check.makeRow(t, r, 5);
        }
        t.merge(0, 2);
        t.merge(1, 2);
        Check.due("ifMerged", t.ifMerged(2, 3, ADDED), 60);
        t.merge(2, 3);
        t.delete(2, 5);
        Check.due("ifMerged", t.ifMerged(2, 3, REMOVED), 60);
    }

    static void promise28_ifMerged_changesNothing() {
        Check.changesNothing("ifMerged(0, 3, 2)", t -> t.ifMerged(0, 3, 2));
        Check.changesNothing("ifMerged(1, 0, 3)", t -> t.ifMerged(1, 0, 3));
    }
}
