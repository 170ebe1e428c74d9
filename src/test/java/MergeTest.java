/** Promises 2 and 14 to 16, and the terms MERGED, CONFLICT and THE BASE. */
final class MergeTest {
    private static final int NONE = SurveyStore.NONE;
    private static final Checks checks = new Checks("MergeTest");

    public static void main(String[] args) {
        mergeOfOneSide();
        mergeOriginsOfUnchangedValues();
        conflictsStayAsTheyWere();
        kindsDecide();
        kindNewerByOrigin();
        kindOfTheMoment();
        settling();
        conflictsOfSeveralBranches();
        crossedBaseIsMerged();
        crossedBaseConflictIsNoneForAllKinds();
        checks.end();
    }

    private static void mergeOfOneSide() {
        SurveyStore s = Stores.fork(0, 1, 1, 3);
        checks.same("merge: only the other changed", s.merge(0, 3), 0);
        checks.same("merge: the other's value", s.value(24, 0, 0, 0), 3);
        checks.same("merge: the other's origin", s.origin(24, 0, 0, 0, 0), 3);
        checks.same("merge: a cell of the other's alone", s.origin(24, 3, 29, 0, 0), 3);
        checks.same("merge: a cell of mine alone", s.origin(24, 3, 30, 0, 0), 2);
        s = Stores.fork(0, 1, 2, 1);
        checks.same("merge: only mine changed", s.merge(0, 3), 0);
        checks.same("merge: my value", s.value(24, 0, 0, 0), 2);
        checks.same("merge: my origin", s.origin(24, 0, 0, 0, 0), 2);
        s = Stores.fork(0, 1, 1, NONE);
        s.merge(0, 3);
        checks.same("merge: the other removed it", s.value(24, 0, 0, 0), NONE);
        checks.same("merge: removed, no origin", s.origin(24, 0, 0, 0, 0), NONE);
        s = Stores.fork(0, 1, NONE, 1);
        s.merge(0, 3);
        checks.same("merge: I removed it", s.value(24, 0, 0, 0), NONE);
        s = Stores.fork(0, NONE, NONE, 4);
        s.merge(0, 3);
        checks.same("merge: the other brought it", s.value(24, 0, 0, 0), 4);
    }

    private static void mergeOriginsOfUnchangedValues() {
        SurveyStore s = new SurveyStore();
        Stores.commitOne(s, 0, 0, 0, 0, 7);
        s.branch(1, 1);
        Stores.commitOne(s, 0, 0, 0, 0, 7);
        s.merge(1, 2);
        checks.same("merge: a newer origin of the same value isn't taken", s.origin(25, 0, 0, 0, 0), 1);
        checks.same("merge: yet it is MERGING and so CHANGED", s.about(25, 2), 1);
        checks.same("merge: so it can be committed", s.commit(1), 3);
        checks.same("merge: and brings my origin", s.origin(3, 0, 0, 0, 0), 1);
    }

    private static void conflictsStayAsTheyWere() {
        SurveyStore s = Stores.fork(0, 1, 2, 3);
        s.merge(0, 3);
        Stores.paintOne(s, 0, 0, 0, 0, 9);
        checks.same("stays: mine", s.conflict(0, 0, 3), 2);
        checks.same("stays: not settled by a paint", s.conflict(0, 0, 6), 0);
        s.settle(0, 0, 8);
        checks.same("stays: mine after settling", s.conflict(0, 0, 3), 2);
        checks.same("stays: the other's after settling", s.conflict(0, 0, 4), 3);
        checks.same("stays: settled", s.conflict(0, 0, 6), 1);
        Stores.paintOne(s, 0, 0, 0, 0, 7);
        checks.same("stays: settled after a paint", s.conflict(0, 0, 6), 1);
        s.commit(0);
        checks.same("stays: what is committed is the paint", s.value(4, 0, 0, 0), 7);
    }

    private static void decided(int kind, int mine, int other, int due, int dueOrigin) {
        SurveyStore s = Stores.fork(2, 1, mine, other);
        s.kind(2, kind);
        checks.same("kind " + kind + ": no conflict", s.merge(0, 3), 0);
        checks.same("kind " + kind + " of " + mine + " and " + other, s.value(24, 2, 0, 0), due);
        checks.same("kind " + kind + ": origin", s.origin(24, 2, 0, 0, 0), dueOrigin);
        checks.same("kind " + kind + ": nothing to tell", s.conflict(0, 0, 0), NONE);
    }

    private static void kindsDecide() {
        decided(1, 5, 3, 5, 2);
        decided(1, 3, 5, 5, 3);
        decided(2, 5, 3, 3, 3);
        decided(2, 3, 5, 3, 2);
        decided(3, 5, 3, 3, 3);
        decided(3, 3, 5, 5, 3);
        SurveyStore s = Stores.fork(2, 1, 5, 3);
        s.kind(2, 3);
        s.merge(1, 2);
        checks.same("kind NEWER: mine is newer", s.value(25, 2, 0, 0), 3);
        s = Stores.fork(2, 9, 5, 9);
        s.kind(2, 1);
        s.merge(0, 3);
        checks.same("kind GREATER: no conflict, so not the greater", s.value(24, 2, 0, 0), 5);
    }

    private static void kindNewerByOrigin() {
        SurveyStore s = new SurveyStore();
        Stores.paintOne(s, 0, 1, 0, 0, 40);
        Stores.paintOne(s, 0, 1, 1, 0, 41);
        Stores.paintOne(s, 0, 0, 0, 0, 1);
        s.commit(0);
        s.branch(1, 1);
        s.kind(0, 3);
        Stores.commitOne(s, 0, 0, 0, 0, 50);
        s.region(0, 0, 1, 1);
        s.copy(1, 0, 1, 1, 0, 0);
        s.commit(1);
        s.merge(0, 3);
        checks.same("NEWER: by the origin, not by the commit", s.value(24, 0, 0, 0), 50);
        s.drop(0);
        s.branch(0, 1);
        s.region(1, 0, 1, 1);
        s.copy(0, 0, 1, 1, 0, 0);
        s.commit(0);
        checks.same("NEWER: merge", s.merge(0, 3), 0);
        checks.same("NEWER: the same commit, so mine", s.value(24, 0, 0, 0), 41);
        checks.same("NEWER: the same commit, my origin", s.origin(24, 0, 0, 0, 2), 1);
    }

    private static void kindOfTheMoment() {
        SurveyStore s = Stores.fork(0, 1, 2, 3);
        s.merge(0, 3);
        s.kind(0, 1);
        checks.same("kind: set after the merge, the conflict stays", s.conflict(0, 0, 6), 0);
        checks.illegalState("kind: set after the merge, not settled", () -> s.commit(0));
        checks.same("kind: other layers aren't touched", Stores.fork(1, 1, 2, 3).merge(0, 3), 1);
    }

    private static void settling() {
        SurveyStore s = new SurveyStore();
        s.branch(1, 0);
        s.region(0, 0, 3, 1);
        s.paint(0, 0, 1);
        s.commit(0);
        s.paint(1, 0, 2);
        s.commit(1);
        checks.same("settle: conflicts", s.merge(0, 2), 3);
        checks.same("settle: the second", s.settle(0, 1, 9), 2);
        checks.same("settle: its value", s.value(24, 0, 1, 0), 9);
        checks.same("settle: its origin", s.origin(24, 0, 1, 0, 0), 24);
        checks.same("settle: its origin's x", s.origin(24, 0, 1, 0, 2), 1);
        checks.same("settle: the second again", s.settle(0, 1, 8), 2);
        checks.same("settle: its value again", s.value(24, 0, 1, 0), 8);
        checks.same("settle: with my value", s.settle(0, 0, 1), 1);
        checks.same("settle: with my value, pending", s.origin(24, 0, 0, 0, 0), 24);
        checks.same("settle: with NONE", s.settle(0, 2, NONE), 0);
        checks.same("settle: with NONE, no value", s.value(24, 0, 2, 0), NONE);
        checks.same("settle: with NONE, no origin", s.origin(24, 0, 2, 0, 0), NONE);
        checks.same("settle: committed", s.commit(0), 3);
        checks.same("settle: its origin is the commit", s.origin(3, 0, 0, 0, 0), 3);
    }

    private static void conflictsOfSeveralBranches() {
        SurveyStore s = Stores.fork(0, 1, 2, 3);
        s.branch(2, 1);
        Stores.commitOne(s, 2, 0, 0, 0, 4);
        checks.same("several: branch 0", s.merge(0, 3), 1);
        checks.same("several: branch 1", s.merge(1, 4), 1);
        checks.same("several: branch 2", s.merge(2, 2), 1);
        checks.same("several: settled in 1", s.settle(1, 0, 5), 0);
        checks.same("several: not in 0", s.conflict(0, 0, 6), 0);
        checks.same("several: mine of 2", s.conflict(2, 0, 3), 4);
        checks.same("several: the other's of 2", s.conflict(2, 0, 4), 2);
        checks.same("several: mine of 1", s.conflict(1, 0, 3), 3);
    }

    private static void crossedBaseIsMerged() {
        SurveyStore s = Stores.crossed(NONE, NONE, 0, 0);
        Stores.paintOne(s, 0, 1, 1, 0, 21);
        Stores.paintOne(s, 0, 1, 2, 0, 22);
        s.commit(0);
        Stores.paintOne(s, 1, 1, 1, 0, 31);
        s.commit(1);
        checks.same("crossed: nearest", s.nearest(5, 6, 1), 2);
        checks.same("crossed: conflicts", s.merge(0, 6), 1);
        checks.same("crossed: the conflict's x", s.conflict(0, 0, 1), 1);
        checks.same("crossed: the base has what only commit 1 made", s.conflict(0, 0, 5), 11);
        checks.same("crossed: the base has what only commit 2 made", s.value(24, 1, 2, 0), 22);
    }

    private static void crossedBaseConflictIsNoneForAllKinds() {
        for (int kind = 1; kind < 4; kind++) {
            SurveyStore s = Stores.crossed(5, 6, 6, 5);
            s.kind(0, kind);
            checks.same("crossed: kind " + kind, s.merge(0, 4), 0);
            int due = kind == 1 ? 6 : 5;
            checks.same("crossed: kind " + kind + ", decided against the base's NONE", s.value(24, 0, 0, 0), due);
        }
    }
}
