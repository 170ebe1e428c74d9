/** Promises 2 and 14 to 16, and the terms MERGED, CONFLICT and THE BASE. */
final class MergeTest {
    private static final int NONE = SurveyStore.NONE;
    private static final int MIN = Integer.MIN_VALUE;
    private static final int MAX = Integer.MAX_VALUE;
    private static final Checks checks = new Checks("MergeTest");

    public static void main(String[] args) {
        kindEdges();
        mergeOfOneSide();
        mergeOfSameValues();
        mergeOfAheadCommit();
        mergeOriginsOfUnchangedValues();
        mergeRefuses();
        conflictsOfKindNothing();
        conflictsInOrder();
        conflictsStayAsTheyWere();
        kindsDecide();
        kindsDecideWithNone();
        kindNewerByOrigin();
        kindOfTheMoment();
        conflictRefuses();
        settling();
        settleRefuses();
        manyConflicts();
        conflictsOfSeveralBranches();
        crossedBaseIsMerged();
        crossedBaseConflictIsNone();
        crossedBaseConflictIsNoneForAllKinds();
        threeNearest();
        checks.end();
    }

    private static void paintOne(SurveyStore s, int b, int layer, int x, int v) {
        s.region(x, 0, 1, 1);
        s.paint(b, layer, v);
    }

    private static int commitOne(SurveyStore s, int b, int layer, int x, int v) {
        paintOne(s, b, layer, x, v);
        return s.commit(b);
    }

    /** Cell x, 0 of a layer: base in commit 1, mine in 2 (branch 0), other in 3 (branch 1). */
    private static SurveyStore fork(int layer, int base, int mine, int other) {
        SurveyStore s = new SurveyStore();
        paintOne(s, 0, 3, 31, 1);
        paintOne(s, 0, layer, 0, base);
        s.commit(0);
        s.branch(1, 1);
        paintOne(s, 0, 3, 30, 1);
        paintOne(s, 0, layer, 0, mine);
        s.commit(0);
        paintOne(s, 1, 3, 29, 1);
        paintOne(s, 1, layer, 0, other);
        s.commit(1);
        return s;
    }

    private static void kindEdges() {
        SurveyStore s = new SurveyStore();
        for (int layer = 0; layer < 4; layer++) {
            for (int kind = 0; kind < 4; kind++) {
                checks.yes("kind " + layer + " " + kind, s.kind(layer, kind));
            }
        }
        int[][] wrong = {{-1, 0}, {4, 0}, {MIN, 0}, {MAX, 0}, {0, -1}, {0, 4}, {0, MIN}, {0, MAX}};
        for (int[] w : wrong) {
            checks.no("kind " + w[0] + " " + w[1], s.kind(w[0], w[1]));
        }
        SurveyStore f = fork(0, 1, 2, 3);
        f.kind(0, 1);
        f.kind(0, 4);
        checks.same("kind: a refused one leaves it", f.merge(0, 3), 0);
    }

    private static void mergeOfOneSide() {
        SurveyStore s = fork(0, 1, 1, 3);
        checks.same("merge: only the other changed", s.merge(0, 3), 0);
        checks.same("merge: the other's value", s.value(24, 0, 0, 0), 3);
        checks.same("merge: the other's origin", s.origin(24, 0, 0, 0, 0), 3);
        checks.same("merge: a cell of the other's alone", s.origin(24, 3, 29, 0, 0), 3);
        checks.same("merge: a cell of mine alone", s.origin(24, 3, 30, 0, 0), 2);
        s = fork(0, 1, 2, 1);
        checks.same("merge: only mine changed", s.merge(0, 3), 0);
        checks.same("merge: my value", s.value(24, 0, 0, 0), 2);
        checks.same("merge: my origin", s.origin(24, 0, 0, 0, 0), 2);
        s = fork(0, 1, 1, NONE);
        s.merge(0, 3);
        checks.same("merge: the other removed it", s.value(24, 0, 0, 0), NONE);
        checks.same("merge: removed, no origin", s.origin(24, 0, 0, 0, 0), NONE);
        s = fork(0, 1, NONE, 1);
        s.merge(0, 3);
        checks.same("merge: I removed it", s.value(24, 0, 0, 0), NONE);
        s = fork(0, NONE, NONE, 4);
        s.merge(0, 3);
        checks.same("merge: the other brought it", s.value(24, 0, 0, 0), 4);
    }

    private static void mergeOfSameValues() {
        SurveyStore s = fork(0, 1, 5, 5);
        checks.same("merge: both the same is no conflict", s.merge(0, 3), 0);
        checks.same("merge: both the same, value", s.value(24, 0, 0, 0), 5);
        checks.same("merge: both the same, my origin", s.origin(24, 0, 0, 0, 0), 2);
        s = fork(0, 1, NONE, NONE);
        checks.same("merge: both removed it", s.merge(0, 3), 0);
        checks.same("merge: both removed it, value", s.value(24, 0, 0, 0), NONE);
        s = fork(0, 1, 5, 5);
        s.kind(0, 3);
        s.merge(0, 3);
        checks.same("merge: both the same, my origin also of NEWER", s.origin(24, 0, 0, 0, 0), 2);
    }

    private static void mergeOfAheadCommit() {
        SurveyStore s = new SurveyStore();
        commitOne(s, 0, 0, 0, 1);
        s.branch(1, 0);
        checks.same("merge: a commit ahead", s.merge(1, 1), 0);
        checks.same("merge: ahead, value", s.value(25, 0, 0, 0), 1);
        checks.same("merge: ahead, origin", s.origin(25, 0, 0, 0, 0), 1);
        checks.same("merge: ahead, merging", s.about(25, 1), 1);
        checks.same("merge: ahead, committed", s.commit(1), 2);
        checks.same("merge: ahead, first parent", s.about(2, 0), 0);
        checks.same("merge: ahead, second parent", s.about(2, 1), 1);
        checks.same("merge: ahead, origin stays", s.origin(2, 0, 0, 0, 0), 1);
    }

    private static void mergeOriginsOfUnchangedValues() {
        SurveyStore s = new SurveyStore();
        commitOne(s, 0, 0, 0, 7);
        s.branch(1, 1);
        commitOne(s, 0, 0, 0, 7);
        s.merge(1, 2);
        checks.same("merge: a newer origin of the same value isn't taken", s.origin(25, 0, 0, 0, 0), 1);
        checks.same("merge: yet it is MERGING and so CHANGED", s.about(25, 2), 1);
        checks.same("merge: so it can be committed", s.commit(1), 3);
        checks.same("merge: and brings my origin", s.origin(3, 0, 0, 0, 0), 1);
    }

    private static void mergeRefuses() {
        SurveyStore s = fork(0, 1, 2, 3);
        int[][] wrong = {{-1, 3}, {2, 3}, {4, 3}, {MIN, 3}, {MAX, 3}, {0, -1}, {0, 4}, {0, 24}, {0, MIN}, {0, MAX}};
        for (int[] w : wrong) {
            checks.illegalArgument("merge " + w[0] + " " + w[1], () -> s.merge(w[0], w[1]));
        }
        checks.illegalState("merge: its head", () -> s.merge(0, 2));
        checks.illegalState("merge: a parent", () -> s.merge(0, 1));
        checks.illegalState("merge: commit 0", () -> s.merge(0, 0));
        paintOne(s, 0, 1, 5, 5);
        checks.illegalState("merge: changed", () -> s.merge(0, 3));
        checks.illegalArgument("merge: changed, no such commit", () -> s.merge(0, 4));
        checks.same("merge refused: not merging", s.about(24, 1), -1);
        checks.same("merge refused: value", s.value(24, 0, 0, 0), 2);
        paintOne(s, 0, 1, 5, NONE);
        checks.same("merge: changed back", s.merge(0, 3), 1);
        checks.illegalState("merge: merging already", () -> s.merge(0, 3));
        s.settle(0, 0, 2);
        s.commit(0);
        checks.illegalState("merge: merged already", () -> s.merge(0, 3));
        checks.same("merge: the merge into the other branch", s.merge(1, 4), 0);
    }

    private static void conflictsOfKindNothing() {
        SurveyStore s = fork(1, 1, 2, 3);
        checks.same("conflict: how many", s.merge(0, 3), 1);
        checks.same("conflict: the cell is mine", s.value(24, 1, 0, 0), 2);
        checks.same("conflict: the cell's origin is mine", s.origin(24, 1, 0, 0, 0), 2);
        int[] due = {1, 0, 0, 2, 3, 1, 0};
        for (int what = 0; what < due.length; what++) {
            checks.same("conflict: what " + what, s.conflict(0, 0, what), due[what]);
        }
        checks.same("conflict: with NONE mine", fork(1, 1, NONE, 3).merge(0, 3), 1);
        checks.same("conflict: with NONE the other's", fork(1, 1, 2, NONE).merge(0, 3), 1);
        checks.same("conflict: with NONE the base's", fork(1, NONE, 2, 3).merge(0, 3), 1);
        s = fork(1, NONE, 2, 3);
        s.merge(0, 3);
        checks.same("conflict: the base's NONE", s.conflict(0, 0, 5), NONE);
    }

    private static void conflictsInOrder() {
        SurveyStore s = new SurveyStore();
        s.branch(1, 0);
        int[][] cells = {{3, 0, 0}, {0, 4, 2}, {0, 31, 1}, {1, 0, 31}, {0, 5, 2}};
        for (int b = 0; b < 2; b++) {
            for (int[] c : cells) {
                s.region(c[1], c[2], 1, 1);
                s.paint(b, c[0], 10 + b);
            }
            s.commit(b);
        }
        checks.same("order: how many", s.merge(1, 1), 5);
        int[][] due = {{0, 31, 1}, {0, 4, 2}, {0, 5, 2}, {1, 0, 31}, {3, 0, 0}};
        for (int i = 0; i < due.length; i++) {
            for (int what = 0; what < 3; what++) {
                checks.same("order: conflict " + i + ", what " + what, s.conflict(1, i, what), due[i][what]);
            }
            checks.same("order: mine", s.conflict(1, i, 3), 11);
            checks.same("order: the other's", s.conflict(1, i, 4), 10);
        }
    }

    private static void conflictsStayAsTheyWere() {
        SurveyStore s = fork(0, 1, 2, 3);
        s.merge(0, 3);
        paintOne(s, 0, 0, 0, 9);
        checks.same("stays: mine", s.conflict(0, 0, 3), 2);
        checks.same("stays: not settled by a paint", s.conflict(0, 0, 6), 0);
        s.settle(0, 0, 8);
        checks.same("stays: mine after settling", s.conflict(0, 0, 3), 2);
        checks.same("stays: the other's after settling", s.conflict(0, 0, 4), 3);
        checks.same("stays: settled", s.conflict(0, 0, 6), 1);
        paintOne(s, 0, 0, 0, 7);
        checks.same("stays: settled after a paint", s.conflict(0, 0, 6), 1);
        s.commit(0);
        checks.same("stays: what is committed is the paint", s.value(4, 0, 0, 0), 7);
    }

    private static void decided(int kind, int mine, int other, int due, int dueOrigin) {
        SurveyStore s = fork(2, 1, mine, other);
        s.kind(2, kind);
        checks.same("kind " + kind + ": no conflict", s.merge(0, 3), 0);
        checks.same("kind " + kind + " of " + mine + " and " + other, s.value(24, 2, 0, 0), due);
        checks.same("kind " + kind + ": origin", s.origin(24, 2, 0, 0, 0), dueOrigin);
        checks.same("kind " + kind + ": nothing to tell", s.conflict(0, 0, 0), NONE);
    }

    private static void kindsDecide() {
        decided(1, 5, 3, 5, 2);
        decided(1, 3, 5, 5, 3);
        decided(2, 5, 3, 3, 3);
        decided(2, 3, 5, 3, 2);
        decided(3, 5, 3, 3, 3);
        decided(3, 3, 5, 5, 3);
        SurveyStore s = fork(2, 1, 5, 3);
        s.kind(2, 3);
        s.merge(1, 2);
        checks.same("kind NEWER: mine is newer", s.value(25, 2, 0, 0), 3);
        s = fork(2, 9, 5, 9);
        s.kind(2, 1);
        s.merge(0, 3);
        checks.same("kind GREATER: no conflict, so not the greater", s.value(24, 2, 0, 0), 5);
    }

    private static void kindsDecideWithNone() {
        decided(1, NONE, -1000000, -1000000, 3);
        decided(1, -1000000, NONE, -1000000, 2);
        decided(2, NONE, -1000000, NONE, NONE);
        decided(2, -1000000, NONE, NONE, NONE);
        decided(3, NONE, 5, 5, 3);
        decided(3, 5, NONE, 5, 2);
    }

    private static void kindNewerByOrigin() {
        SurveyStore s = new SurveyStore();
        paintOne(s, 0, 1, 0, 40);
        paintOne(s, 0, 1, 1, 41);
        paintOne(s, 0, 0, 0, 1);
        s.commit(0);
        s.branch(1, 1);
        s.kind(0, 3);
        commitOne(s, 0, 0, 0, 50);
        s.region(0, 0, 1, 1);
        s.copy(1, 0, 1, 1, 0, 0);
        s.commit(1);
        s.merge(0, 3);
        checks.same("NEWER: by the origin, not by the commit", s.value(24, 0, 0, 0), 50);
        s.drop(0);
        s.branch(0, 1);
        s.region(1, 0, 1, 1);
        s.copy(0, 0, 1, 1, 0, 0);
        s.commit(0);
        checks.same("NEWER: merge", s.merge(0, 3), 0);
        checks.same("NEWER: the same commit, so mine", s.value(24, 0, 0, 0), 41);
        checks.same("NEWER: the same commit, my origin", s.origin(24, 0, 0, 0, 2), 1);
    }

    private static void kindOfTheMoment() {
        SurveyStore s = fork(0, 1, 2, 3);
        s.merge(0, 3);
        s.kind(0, 1);
        checks.same("kind: set after the merge, the conflict stays", s.conflict(0, 0, 6), 0);
        checks.illegalState("kind: set after the merge, not settled", () -> s.commit(0));
        checks.same("kind: other layers aren't touched", fork(1, 1, 2, 3).merge(0, 3), 1);
    }

    private static void conflictRefuses() {
        SurveyStore s = fork(0, 1, 2, 3);
        checks.same("conflict: before a merge", s.conflict(0, 0, 0), NONE);
        s.merge(0, 3);
        int[][] wrong = {
            {-1, 0, 0}, {1, 0, 0}, {2, 0, 0}, {4, 0, 0}, {MIN, 0, 0}, {MAX, 0, 0}, {0, -1, 0}, {0, 1, 0},
            {0, MIN, 0}, {0, MAX, 0}, {0, 4096, 0}, {0, 0, -1}, {0, 0, 7}, {0, 0, MIN}, {0, 0, MAX}};
        for (int[] w : wrong) {
            checks.same("conflict " + w[0] + " " + w[1] + " " + w[2], s.conflict(w[0], w[1], w[2]), NONE);
        }
        s.drop(0);
        checks.same("conflict: of a dropped branch", s.conflict(0, 0, 0), NONE);
    }

    private static void settling() {
        SurveyStore s = new SurveyStore();
        s.branch(1, 0);
        s.region(0, 0, 3, 1);
        s.paint(0, 0, 1);
        s.commit(0);
        s.paint(1, 0, 2);
        s.commit(1);
        checks.same("settle: conflicts", s.merge(0, 2), 3);
        checks.same("settle: the second", s.settle(0, 1, 9), 2);
        checks.same("settle: its value", s.value(24, 0, 1, 0), 9);
        checks.same("settle: its origin", s.origin(24, 0, 1, 0, 0), 24);
        checks.same("settle: its origin's x", s.origin(24, 0, 1, 0, 2), 1);
        checks.same("settle: the second again", s.settle(0, 1, 8), 2);
        checks.same("settle: its value again", s.value(24, 0, 1, 0), 8);
        checks.same("settle: with my value", s.settle(0, 0, 1), 1);
        checks.same("settle: with my value, pending", s.origin(24, 0, 0, 0, 0), 24);
        checks.same("settle: with NONE", s.settle(0, 2, NONE), 0);
        checks.same("settle: with NONE, no value", s.value(24, 0, 2, 0), NONE);
        checks.same("settle: with NONE, no origin", s.origin(24, 0, 2, 0, 0), NONE);
        checks.same("settle: committed", s.commit(0), 3);
        checks.same("settle: its origin is the commit", s.origin(3, 0, 0, 0, 0), 3);
    }

    private static void settleRefuses() {
        SurveyStore s = fork(0, 1, 2, 3);
        checks.illegalArgument("settle: before a merge", () -> s.settle(0, 0, 1));
        s.merge(0, 3);
        int[][] wrong = {
            {-1, 0, 1}, {1, 0, 1}, {2, 0, 1}, {4, 0, 1}, {MIN, 0, 1}, {MAX, 0, 1}, {0, -1, 1}, {0, 1, 1},
            {0, MIN, 1}, {0, MAX, 1}, {0, 0, 1000001}, {0, 0, -1000001}, {0, 0, MAX}, {0, 0, MIN + 1}};
        for (int[] w : wrong) {
            checks.illegalArgument("settle " + w[0] + " " + w[1] + " " + w[2], () -> s.settle(w[0], w[1], w[2]));
        }
        checks.same("settle refused: not settled", s.conflict(0, 0, 6), 0);
        checks.same("settle refused: value", s.value(24, 0, 0, 0), 2);
        checks.same("settle: good", s.settle(0, 0, 1000000), 0);
    }

    private static void manyConflicts() {
        SurveyStore s = new SurveyStore();
        s.branch(1, 0);
        for (int layer = 0; layer < 4; layer++) {
            s.paint(0, layer, 1);
            s.paint(1, layer, 2);
        }
        s.commit(0);
        s.commit(1);
        checks.same("many: every cell", s.merge(0, 2), 4096);
        checks.same("many: the last one's layer", s.conflict(0, 4095, 0), 3);
        checks.same("many: the last one's x", s.conflict(0, 4095, 1), 31);
        checks.same("many: the last one's y", s.conflict(0, 4095, 2), 31);
        checks.same("many: none behind it", s.conflict(0, 4096, 0), NONE);
        checks.same("many: settle the last", s.settle(0, 4095, 3), 4095);
        s.drop(0);
        s.branch(0, 1);
        s.kind(0, 1);
        checks.same("many: again, with a kind", s.merge(0, 2), 3072);
        checks.same("many: again, the first one's layer", s.conflict(0, 0, 0), 1);
        checks.same("many: again, the last isn't settled", s.conflict(0, 3071, 6), 0);
    }

    private static void conflictsOfSeveralBranches() {
        SurveyStore s = fork(0, 1, 2, 3);
        s.branch(2, 1);
        commitOne(s, 2, 0, 0, 4);
        checks.same("several: branch 0", s.merge(0, 3), 1);
        checks.same("several: branch 1", s.merge(1, 4), 1);
        checks.same("several: branch 2", s.merge(2, 2), 1);
        checks.same("several: settled in 1", s.settle(1, 0, 5), 0);
        checks.same("several: not in 0", s.conflict(0, 0, 6), 0);
        checks.same("several: mine of 2", s.conflict(2, 0, 3), 4);
        checks.same("several: the other's of 2", s.conflict(2, 0, 4), 2);
        checks.same("several: mine of 1", s.conflict(1, 0, 3), 3);
    }

    /** Commits 1 and 2 are the nearest of 3 and 4, which each merged both. */
    private static SurveyStore crossed(int one, int two, int settledOne, int settledTwo) {
        SurveyStore s = new SurveyStore();
        s.branch(1, 0);
        paintOne(s, 0, 1, 1, 11);
        paintOne(s, 0, 0, 0, one);
        s.commit(0);
        paintOne(s, 1, 1, 2, 12);
        paintOne(s, 1, 0, 0, two);
        s.commit(1);
        if (s.merge(0, 2) > 0) {
            s.settle(0, 0, settledOne);
        }
        s.commit(0);
        if (s.merge(1, 1) > 0) {
            s.settle(1, 0, settledTwo);
        }
        s.commit(1);
        return s;
    }

    private static void crossedBaseIsMerged() {
        SurveyStore s = crossed(NONE, NONE, 0, 0);
        paintOne(s, 0, 1, 1, 21);
        paintOne(s, 0, 1, 2, 22);
        s.commit(0);
        paintOne(s, 1, 1, 1, 31);
        s.commit(1);
        checks.same("crossed: nearest", s.nearest(5, 6, 1), 2);
        checks.same("crossed: conflicts", s.merge(0, 6), 1);
        checks.same("crossed: the conflict's x", s.conflict(0, 0, 1), 1);
        checks.same("crossed: the base has what only commit 1 made", s.conflict(0, 0, 5), 11);
        checks.same("crossed: the base has what only commit 2 made", s.value(24, 1, 2, 0), 22);
    }

    private static void crossedBaseConflictIsNone() {
        SurveyStore s = crossed(5, 6, 5, 6);
        checks.same("crossed: conflict", s.merge(0, 4), 1);
        checks.same("crossed: mine", s.conflict(0, 0, 3), 5);
        checks.same("crossed: the other's", s.conflict(0, 0, 4), 6);
        checks.same("crossed: the base's conflict is NONE", s.conflict(0, 0, 5), NONE);
        s = crossed(5, 6, NONE, 6);
        checks.same("crossed: mine is the base's NONE", s.merge(0, 4), 0);
        checks.same("crossed: so it is the other's", s.value(24, 0, 0, 0), 6);
    }

    private static void crossedBaseConflictIsNoneForAllKinds() {
        for (int kind = 1; kind < 4; kind++) {
            SurveyStore s = crossed(5, 6, 6, 5);
            s.kind(0, kind);
            checks.same("crossed: kind " + kind, s.merge(0, 4), 0);
            int due = kind == 1 ? 6 : 5;
            checks.same("crossed: kind " + kind + ", decided against the base's NONE", s.value(24, 0, 0, 0), due);
        }
    }

    /** Three commits on 0, merged in two orders by two branches: the base is that of all three. */
    private static void threeNearest() {
        SurveyStore s = new SurveyStore();
        s.branch(1, 0);
        s.branch(2, 0);
        for (int b = 0; b < 3; b++) {
            paintOne(s, b, 0, b, 10 + b);
            paintOne(s, b, 1, 0, b == 1 ? 8 : 7);
            s.commit(b);
        }
        int[][] merges = {{0, 2}, {0, 3}, {1, 3}, {1, 1}};
        for (int[] m : merges) {
            if (s.merge(m[0], m[1]) > 0) {
                s.settle(m[0], 0, 20 + m[0]);
            }
            s.commit(m[0]);
        }
        checks.same("three: first", s.nearest(5, 7, 0), 1);
        checks.same("three: second", s.nearest(5, 7, 1), 2);
        checks.same("three: third", s.nearest(5, 7, 2), 3);
        checks.same("three: no fourth", s.nearest(5, 7, 3), -1);
        checks.same("three: conflicts", s.merge(0, 7), 1);
        checks.same("three: mine", s.conflict(0, 0, 3), 20);
        checks.same("three: the other's", s.conflict(0, 0, 4), 21);
        // 7 and 8 conflict, which is NONE, the base's value; so then the third's 7 is taken.
        checks.same("three: the base's", s.conflict(0, 0, 5), 7);
    }
}
