/** The boundary cases of promises 13 and 29: undo and savedStates. */
public final class BoundaryUndoTests {
    private static final int LATEST = CausalTable.LATEST;
    private static final int SIBLINGS = CausalTable.SIBLINGS;
    private static final int GREATEST = CausalTable.GREATEST;

    public static void main(String[] args) {
        Check.runAll(BoundaryUndoTests.class, 13, 29);
    }

    /** The undoable call of a number, different from those beside it. */
    private static void act(CausalTable t, int number) {
        int replica = number % 4;
        switch (number % 7) {
            case 0: t.put(replica, number % 6, LATEST, number); break;
            case 1: t.put(replica, number % 6, SIBLINGS, number); break;
            case 2: t.merge(replica, (replica + 1) % 4); break;
            case 3: t.add(replica, number % 6, number % 99 + 1); break;
            case 4: t.include(replica, number % 6, number % 16); break;
            case 5: t.mergeAll(); break;
            default: t.delete(replica, number % 6); break;
        }
    }

    private static CausalTable acted(int calls) {
        CausalTable t = new CausalTable();
        for (int i = 0; i < calls; i++) {
            act(t, i);
        }
        return t;
    }

    // ---- promise 13: undo

    static void promise13_undo_ofANewObjectIsRefused() {
        Check.refusesAfter(Check::nothing, Check.STATE, "undo()", CausalTable::undo);
    }

    static void promise13_undo_ofOnlyATextIsRefused() {
        Check.refusesAfter(t -> Check.write(t, "d00"), Check.STATE, "undo()", CausalTable::undo);
    }

    static void promise13_undo_ofTheOnlySavedStateAnswers0() {
        CausalTable t = acted(1);
        Check.due("undo", t.undo(), 0);
        Check.same("the state", Check.state(t), Check.state(acted(0)));
    }

    static void promise13_undo_behindTheLastSavedStateIsRefused() {
        Check.refusesAfter(t -> {
            act(t, 0);
            t.undo();
        }, Check.STATE, "undo()", CausalTable::undo);
        Check.refusesAfter(t -> {
            for (int i = 0; i < 3; i++) {
                act(t, i);
            }
            for (int i = 0; i < 3; i++) {
                t.undo();
            }
        }, Check.STATE, "undo()", CausalTable::undo);
    }

    static void promise13_undo_sixCallsAreUndoneToTheFirstState() {
        for (int calls = 1; calls <= 6; calls++) {
            CausalTable t = acted(calls);
            for (int left = calls - 1; left >= 0; left--) {
                Check.due("undo", t.undo(), left);
            }
            Check.same("the state", Check.state(t), Check.state(acted(0)));
        }
    }

    static void promise13_undo_ofSevenCallsReachesTheStateAfterTheFirst() {
        CausalTable t = acted(7);
        for (int left = 5; left >= 0; left--) {
            Check.due("undo", t.undo(), left);
        }
        Check.same("the state", Check.state(t), Check.state(acted(1)));
    }

    static void promise13_undo_theSeventhIsRefused() {
        Check.refusesAfter(t -> {
            for (int i = 0; i < 7; i++) {
                act(t, i);
            }
            for (int i = 0; i < 6; i++) {
                t.undo();
            }
        }, Check.STATE, "the seventh undo()", CausalTable::undo);
    }

    static void promise13_undo_eachOfTheLastSixStatesIsRestoredHoweverManyWereSaved() {
        for (int calls = 0; calls <= 20; calls++) {
            for (int undone = 1; undone <= Math.min(calls, 6); undone++) {
                CausalTable t = acted(calls);
                for (int i = 1; i <= undone; i++) {
                    Check.due("undo", t.undo(), Math.min(calls, 6) - i);
                }
                Check.same(calls + " calls, " + undone + " undone", Check.state(t),
                        Check.state(acted(calls - undone)));
            }
        }
    }

    static void promise13_undo_callsAfterAnUndoAreSavedInPlaceOfTheUndone() {
        for (int calls = 6; calls <= 13; calls++) {
            for (int undone = 1; undone <= 6; undone++) {
                CausalTable t = acted(calls);
                CausalTable twin = acted(calls - undone);
                for (int i = 0; i < undone; i++) {
                    t.undo();
                }
                int again = 100;
                for (int i = 0; i < 5; i++) {
                    act(t, again + i);
                }
                for (int i = 0; i < 3; i++) {
                    act(twin, again + i);
                }
                t.undo();
                Check.due("undo", t.undo(), Math.min(6 - undone + 5, 6) - 2);
                Check.same("the state", Check.state(t), Check.state(twin));
            }
        }
    }

    static void promise13_undo_allTheWayAndThenSixCallsAgain() {
        for (int calls = 1; calls <= 13; calls++) {
            CausalTable t = acted(calls);
            while (t.savedStates() > 0) {
                t.undo();
            }
            String bottom = Check.replica(t, 0) + Check.replica(t, 3);
            for (int i = 0; i < 6; i++) {
                act(t, 50 + i);
            }
            for (int left = 5; left >= 0; left--) {
                Check.due("undo", t.undo(), left);
            }
            Check.same("the state", Check.replica(t, 0) + Check.replica(t, 3), bottom);
            Check.due("undo", Check.thrown(t, CausalTable::undo), Check.STATE);
        }
    }

    static void promise13_undo_isNotSavedItself() {
        CausalTable t = acted(2);
        t.undo();
        Check.due("savedStates", t.savedStates(), 1);
        t.undo();
        Check.due("undo", Check.thrown(t, CausalTable::undo), Check.STATE);
        Check.same("the state", Check.state(t), Check.state(acted(0)));
    }

    static void promise13_undo_restoresEntries() {
        CausalTable t = Check.ran("l00,1;v00,2;g00,3;a00,4;i00,5");
        t.delete(0, 0);
        t.undo();
        Check.due("latest", t.latest(0, 0), 1);
        Check.due("sibling", t.sibling(0, 0, 0), 2);
        Check.due("greatest", t.greatest(0, 0), 3);
        Check.due("counter", t.counter(0, 0), 4);
        Check.due("elements", t.elements(0, 0), 1 << 5);
    }

    static void promise13_undo_restoresClocks() {
        CausalTable t = new CausalTable();
        t.delete(0, 0);
        t.delete(0, 0);
        t.merge(0, 1);
        t.undo();
        Check.due("clock of 1", t.clock(1), 0);
        t.undo();
        Check.due("clock of 0", t.clock(0), 1);
    }

    static void promise13_undo_restoresSeenVectors() {
        CausalTable t = new CausalTable();
        t.delete(0, 0);
        t.delete(0, 0);
        t.merge(0, 1);
        t.undo();
        Check.due("seen(1, 0)", t.seen(1, 0), 0);
        t.undo();
        Check.due("seen(0, 0)", t.seen(0, 0), 1);
    }

    static void promise13_undo_restoresStamps() {
        CausalTable t = new CausalTable();
        t.put(0, 3, LATEST, 10);
        t.put(1, 3, LATEST, 20);
        t.put(0, 3, LATEST, 30);
        t.undo();
        t.merge(0, 1);
        // Both stamps are 1 again, so replica 1 wins.
        Check.due("latest", t.latest(1, 3), 20);
    }

    static void promise13_undo_restoresStampsOfEachReplicaAndRow() {
        for (int r = 0; r < 4; r++) {
            for (int row = 0; row < 6; row++) {
                int other = (r + 1) % 4;
                CausalTable t = new CausalTable();
                t.put(r, row, LATEST, 10);
                t.delete(r, (row + 1) % 6);
                t.put(r, row, LATEST, 30);
                t.undo();
                t.delete(other, row);
                t.put(other, row, LATEST, 20);
                t.merge(other, r);
                // The stamp of 10 is 1 again, that of 20 is 2; the one of 30 was 3.
                Check.due("latest", t.latest(r, row), 20);
            }
        }
    }

    static void promise13_undo_restoresMarks() {
        CausalTable t = new CausalTable();
        t.put(0, 3, LATEST, 10);
        t.merge(0, 1);
        t.put(0, 3, LATEST, 30);
        t.undo();
        Check.due("added", t.ifMerged(0, 1, 2), 0);
        Check.due("removed", t.ifMerged(0, 1, 3), 0);
    }

    static void promise13_undo_restoresTheLatestMerge() {
        CausalTable t = new CausalTable();
        t.put(2, 0, LATEST, 1);
        t.merge(2, 3);
        t.merge(0, 1);
        t.undo();
        Check.due("latestMerge", t.latestMerge(0), 2);
        Check.due("latestMerge", t.latestMerge(1), 3);
        Check.due("latestMerge", t.latestMerge(2), 1);
        Check.due("latestMerge", t.latestMerge(3), 0);
        t.undo();
        for (int part = 0; part < 4; part++) {
            Check.due("latestMerge", t.latestMerge(part), -1);
        }
    }

    static void promise13_undo_leavesTheText() {
        CausalTable t = Check.written("d00");
        t.put(0, 0, LATEST, 1);
        t.appendText(';');
        t.undo();
        Check.due("textLength", t.textLength(), 4);
        Check.due("errorPosition", t.errorPosition(), 4);
        t.put(0, 0, LATEST, 1);
        t.clearText();
        t.undo();
        Check.due("textLength", t.textLength(), 0);
    }

    static void promise13_undo_ofACallThatChangesNothingChangesNothing() {
        CausalTable t = acted(4);
        t.merge(0, 1);
        t.merge(0, 1);
        Check.due("undo", t.undo(), 5);
        CausalTable twin = acted(4);
        twin.merge(0, 1);
        Check.same("the state", Check.state(t), Check.state(twin));
    }

    static void promise13_undo_refusedCallsAreNotUndone() {
        CausalTable t = acted(3);
        Check.thrown(t, u -> u.put(0, 0, LATEST, 1000));
        Check.thrown(t, u -> u.add(0, 0, 0));
        Check.thrown(t, u -> u.include(0, 0, 16));
        Check.thrown(t, u -> u.exclude(0, 0, 16));
        Check.thrown(t, u -> u.delete(0, 6));
        Check.thrown(t, u -> u.merge(1, 1));
        Check.thrown(t, CausalTable::runText);
        Check.due("undo", t.undo(), 2);
        Check.same("the state", Check.state(t), Check.state(acted(2)));
    }

    static void promise13_undo_eachUndoableCallTakesOneUndo() {
        Check.undoable("put", t -> t.put(1, 0, GREATEST, 1));
        Check.undoable("add", t -> t.add(1, 0, 1));
        Check.undoable("include", t -> t.include(1, 0, 1));
        Check.undoable("exclude", t -> t.exclude(3, 0, 15));
        Check.undoable("delete", t -> t.delete(0, 0));
        Check.undoable("merge", t -> t.merge(0, 1));
        Check.undoable("mergeAll", CausalTable::mergeAll);
        Check.undoable("runText", t -> {
            Check.write(t, "l00,1;d11;m23;m30");
            return t.runText();
        });
    }

    // ---- promise 29: savedStates

    static void promise29_savedStates_ofANewObjectIs0() {
        Check.due("savedStates", new CausalTable().savedStates(), 0);
    }

    static void promise29_savedStates_eachCallUpToTheSixthAdds1() {
        for (int calls = 0; calls <= 6; calls++) {
            Check.due("savedStates", acted(calls).savedStates(), calls);
        }
    }

    static void promise29_savedStates_theSeventhAddsNone() {
        Check.due("savedStates", acted(7).savedStates(), 6);
    }

    static void promise29_savedStates_areSixAfterManyCalls() {
        for (int calls = 8; calls <= 30; calls++) {
            Check.due("savedStates", acted(calls).savedStates(), 6);
        }
    }

    static void promise29_savedStates_eachUndoableCallAdds1() {
        Check.Call[] calls = {
            t -> t.put(0, 0, SIBLINGS, 1), t -> t.add(0, 0, 1), t -> t.include(0, 0, 1),
            t -> t.exclude(0, 0, 1), t -> t.delete(0, 0), t -> t.merge(0, 1),
            CausalTable::mergeAll, CausalTable::runText};
        for (Check.Call call : calls) {
            CausalTable t = Check.written("d00;d10;m01");
            call.on(t);
            Check.due("savedStates", t.savedStates(), 1);
        }
    }

    static void promise29_savedStates_undoTakes1() {
        CausalTable t = acted(9);
        for (int left = 5; left >= 0; left--) {
            t.undo();
            Check.due("savedStates", t.savedStates(), left);
        }
    }

    static void promise29_savedStates_refusedUndoLeaves0() {
        CausalTable t = new CausalTable();
        Check.thrown(t, CausalTable::undo);
        Check.due("savedStates", t.savedStates(), 0);
        act(t, 0);
        Check.due("savedStates", t.savedStates(), 1);
    }

    static void promise29_savedStates_refusedCallsAddNone() {
        CausalTable t = Check.written("d06");
        Check.thrown(t, u -> u.put(0, 0, 3, 1));
        Check.thrown(t, u -> u.put(0, 0, 0, -1));
        Check.thrown(t, u -> u.add(0, 0, 100));
        Check.thrown(t, u -> u.include(0, 0, -1));
        Check.thrown(t, u -> u.exclude(0, 0, -1));
        Check.thrown(t, u -> u.delete(4, 0));
        Check.thrown(t, u -> u.merge(2, 2));
        Check.thrown(t, u -> u.merge(2, 4));
        Check.thrown(t, CausalTable::runText);
        Check.due("savedStates", t.savedStates(), 0);
    }

    static void promise29_savedStates_textsAndQueriesAddNone() {
        CausalTable t = new CausalTable();
        Check.write(t, "d00");
        Check.all(t);
        t.clearText();
        Check.due("savedStates", t.savedStates(), 0);
    }

    static void promise29_savedStates_changesNothing() {
        Check.changesNothing("savedStates()", CausalTable::savedStates);
    }
}
