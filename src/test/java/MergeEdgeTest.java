/** The boundaries that promises 2 and 14 to 16 name, a test for each sentence. */
final class MergeEdgeTest {
    private static final int NONE = Stores.NONE;
    private static final int MIN = Stores.MIN;
    private static final int MAX = Stores.MAX;
    private static final int MOST = Stores.MOST;
    private static final Checks checks = new Checks("MergeEdgeTest");

    public static void main(String[] args) {
        kind();
        merge();
        conflict();
        settle();
        checks.end();
    }

    private static void kind() {
        checks.sentence("Promise 2: A layer's kind becomes this", MergeEdgeTest::kindBecomes);
        checks.sentence("Promise 2: false if there is no such layer", MergeEdgeTest::kindNoLayer);
        checks.sentence("Promise 2: false if there is no such .. kind", MergeEdgeTest::kindNoKind);
        checks.sentence("Promise 2: refused, the kind is what it was", MergeEdgeTest::kindRefused);
    }

    private static void merge() {
        checks.sentence("Promise 14: how many conflicts there are: none", MergeEdgeTest::mergeWithoutConflicts);
        checks.sentence("Promise 14: how many conflicts there are: all cells", MergeEdgeTest::mergeOfAllCells);
        checks.sentence("Promise 14: how many conflicts there are: counted anew", MergeEdgeTest::mergeCountsAnew);
        checks.sentence("Promise 14: the base is that of its head and the commit", MergeEdgeTest::mergeAhead);
        checks.sentence("Promise 14: there is no such branch", MergeEdgeTest::mergeNoBranch);
        checks.sentence("Promise 14: there is no such .. commit", MergeEdgeTest::mergeNoCommit);
        checks.sentence("Promise 14: the branch is CHANGED, by an edit", MergeEdgeTest::mergeChanged);
        checks.sentence("Promise 14: the branch is CHANGED, as it is MERGING", MergeEdgeTest::mergeMerging);
        checks.sentence("Promise 14: the commit is an ancestor of its head", MergeEdgeTest::mergeAncestor);
    }

    private static void conflict() {
        checks.sentence("Promise 15: (in order of layers, y, x)", MergeEdgeTest::conflictOrder);
        checks.sentence("Promise 15: as the merge left it", MergeEdgeTest::conflictAsLeft);
        checks.sentence("Promise 15: what 0 .. 6", MergeEdgeTest::conflictWhat);
        checks.sentence("Promise 15: 6 whether it is settled (1, 0)", MergeEdgeTest::conflictSettled);
        checks.sentence("Promise 15: NONE if there is none such: i", MergeEdgeTest::conflictNoNumber);
        checks.sentence("Promise 15: NONE if there is none such: what", MergeEdgeTest::conflictNoWhat);
        checks.sentence("Promise 15: NONE if there is none such: branch", MergeEdgeTest::conflictNoBranch);
        checks.sentence("Promise 15: NONE if there is none such: no merge", MergeEdgeTest::conflictNoMerge);
    }

    private static void settle() {
        checks.sentence("Promise 16: the cell of a conflict gets a value, or NONE", MergeEdgeTest::settleValues);
        checks.sentence("Promise 16: and is settled: how many aren't", MergeEdgeTest::settleCounts);
        checks.sentence("Promise 16: how many aren't, of all cells", MergeEdgeTest::settleOfAllCells);
        checks.sentence("Promise 16: there is no such branch", MergeEdgeTest::settleNoBranch);
        checks.sentence("Promise 16: there is no such .. conflict", MergeEdgeTest::settleNoConflict);
        checks.sentence("Promise 16: there is no such .. value", MergeEdgeTest::settleNoValue);
    }

    /** Branch 0 is merging with commit 5, with conflicts in cell 0, 0 of layers 0 and 3. */
    private static SurveyStore twoConflicts() {
        SurveyStore s = Stores.fork(0, 1, 2, 3);
        Stores.commitOne(s, 0, 3, 0, 0, 20);
        Stores.commitOne(s, 1, 3, 0, 0, 30);
        s.merge(0, 5);
        return s;
    }

    /** Mine 2, the other's 3: what a kind makes of them, or NONE for a conflict. */
    private static void decides(SurveyStore s, int layer, int due) {
        checks.same("conflicts of layer " + layer, s.merge(0, 3), due == NONE ? 1 : 0);
        checks.same("value of layer " + layer, s.value(24, layer, 0, 0), due == NONE ? 2 : due);
    }

    private static void kindBecomes() {
        int[] due = {NONE, 3, 2, 3};
        for (int layer = 0; layer < 4; layer++) {
            for (int kind = 0; kind < 4; kind++) {
                SurveyStore s = Stores.fork(layer, 1, 2, 3);
                checks.yes("layer " + layer + ", kind " + kind, s.kind(layer, kind));
                decides(s, layer, due[kind]);
            }
            SurveyStore s = Stores.fork(layer, 1, 2, 3);
            for (int other = 0; other < 4; other++) {
                s.kind(other, other == layer ? 0 : 1);
            }
            decides(s, layer, NONE);
        }
    }

    private static void kindNoLayer() {
        SurveyStore s = Stores.forkOfAllCells();
        for (int layer : Stores.NO_LAYERS) {
            checks.no("layer " + layer, s.kind(layer, 1));
        }
        checks.same("no layer has it", s.merge(0, 2), 4096);
    }

    private static void kindNoKind() {
        SurveyStore s = Stores.forkOfAllCells();
        for (int kind : new int[] {-1, 4, 5, MIN, MAX}) {
            checks.no("kind " + kind, s.kind(0, kind));
        }
        checks.same("the layer hasn't it", s.merge(0, 2), 4096);
    }

    private static void kindRefused() {
        SurveyStore s = Stores.fork(0, 1, 2, 3);
        s.kind(0, 2);
        checks.no("no such kind", s.kind(0, 4));
        checks.no("no such layer", s.kind(4, 1));
        decides(s, 0, 2);
    }

    private static void mergeWithoutConflicts() {
        SurveyStore s = Stores.fork(0, 1, 2, 2);
        checks.same("the same on both sides", s.merge(0, 3), 0);
        checks.same("none", s.conflict(0, 0, 0), NONE);
        checks.same("it is merging all the same", s.about(24, 1), 3);
        checks.same("and can be committed", s.commit(0), 4);
    }

    private static void mergeOfAllCells() {
        SurveyStore s = Stores.forkOfAllCells();
        checks.same("how many", s.merge(0, 2), 4096);
        int[] last = {3, 31, 31, 1, 2, NONE, 0};
        for (int what = 0; what < 7; what++) {
            checks.same("the last one, what " + what, s.conflict(0, 4095, what), last[what]);
        }
        checks.same("none behind it", s.conflict(0, 4096, 0), NONE);
        checks.same("the cells are mine", s.differing(24, 1, 3), 0);
    }

    private static void mergeCountsAnew() {
        SurveyStore s = Stores.forkOfAllCells();
        s.merge(0, 2);
        s.settle(0, 0, 7);
        s.settle(0, 4095, 7);
        s.drop(0);
        s.branch(0, 1);
        s.kind(0, 1);
        checks.same("of three layers", s.merge(0, 2), 3072);
        checks.same("the first one's layer", s.conflict(0, 0, 0), 1);
        checks.same("the first one is not settled", s.conflict(0, 0, 6), 0);
        checks.same("the last one is not settled", s.conflict(0, 3071, 6), 0);
        checks.same("none behind it", s.conflict(0, 3072, 0), NONE);
        checks.same("all but one aren't settled", s.settle(0, 0, 1), 3071);
    }

    private static void mergeAhead() {
        SurveyStore s = Stores.painted();
        s.branch(1, 0);
        checks.same("the head is itself the base", s.merge(1, 1), 0);
        for (int layer = 0; layer < 4; layer++) {
            checks.same("all is the other's, layer " + layer, s.differing(25, 1, layer), 0);
        }
        checks.same("its origin", s.origin(25, 3, 31, 31, 0), 1);
        checks.same("its head stays until the commit", s.about(25, 0), 0);
    }

    private static void mergeNoBranch() {
        SurveyStore s = Stores.fork(0, 1, 2, 3);
        s.branch(2, 1);
        s.drop(2);
        for (int b : Stores.NO_BRANCHES) {
            checks.illegalArgument("branch " + b, () -> s.merge(b, 3));
        }
        checks.illegalArgument("there no more", () -> s.merge(2, 3));
        checks.illegalArgument("never there", () -> s.merge(3, 3));
        checks.same("refused: branch 0", s.about(24, 2), 0);
    }

    private static void mergeNoCommit() {
        SurveyStore s = Stores.fork(0, 1, 2, 3);
        for (int c : Stores.noCommits(4)) {
            checks.illegalArgument("commit " + c, () -> s.merge(0, c));
        }
        checks.illegalArgument("commit 35, a shift by which is one by 3", () -> s.merge(0, 35));
        checks.same("refused: branch 0", s.about(24, 2), 0);
    }

    private static void mergeChanged() {
        SurveyStore s = Stores.fork(0, 1, 2, 3);
        Stores.paintOne(s, 0, 1, 31, 31, 5);
        checks.illegalState("by a value", () -> s.merge(0, 3));
        checks.same("refused: not merging", s.about(24, 1), -1);
        checks.same("refused: my value", s.value(24, 0, 0, 0), 2);
        checks.same("refused: no conflict", s.conflict(0, 0, 0), NONE);
        Stores.paintOne(s, 0, 1, 31, 31, NONE);
        Stores.paintOne(s, 0, 0, 0, 0, 2);
        checks.illegalState("by an origin", () -> s.merge(0, 3));
        s.copy(0, 0, 2, 0, 0, 0);
        checks.same("changed back", s.merge(0, 3), 1);
    }

    private static void mergeMerging() {
        SurveyStore s = Stores.fork(0, 1, 2, 2);
        Stores.commitOne(s, 1, 2, 2, 2, 2);
        s.merge(0, 3);
        checks.illegalState("the same again", () -> s.merge(0, 3));
        checks.illegalState("another", () -> s.merge(0, 4));
        checks.same("refused: still with the first", s.about(24, 1), 3);
        checks.same("refused: nothing of the other", s.value(24, 2, 2, 2), NONE);
        s.commit(0);
        checks.same("committed", s.merge(0, 4), 0);
    }

    private static void mergeAncestor() {
        SurveyStore s = Stores.fork(0, 1, 2, 2);
        s.merge(0, 3);
        s.commit(0);
        checks.illegalState("its head", () -> s.merge(0, 4));
        checks.illegalState("its head's first parent", () -> s.merge(0, 2));
        checks.illegalState("its head's second parent", () -> s.merge(0, 3));
        checks.illegalState("a parent of both", () -> s.merge(0, 1));
        checks.illegalState("commit 0", () -> s.merge(0, 0));
        checks.same("refused: not merging", s.about(24, 1), -1);
        checks.same("one that comes after the head is none", s.merge(1, 4), 0);
        SurveyStore t = Stores.full();
        checks.illegalState("the last commit", () -> t.merge(0, 23));
        checks.illegalState("the last but one", () -> t.merge(0, 22));
    }

    private static void conflictOrder() {
        SurveyStore s = new SurveyStore();
        s.branch(1, 0);
        int[][] cells = {{3, 0, 0}, {0, 4, 2}, {0, 31, 1}, {1, 0, 31}, {0, 5, 2}, {0, 0, 2}, {2, 31, 31}};
        for (int b = 0; b < 2; b++) {
            for (int[] c : cells) {
                Stores.paintOne(s, b, c[0], c[1], c[2], 10 + b);
            }
            s.commit(b);
        }
        checks.same("how many", s.merge(1, 1), 7);
        int[][] due = {{0, 31, 1}, {0, 0, 2}, {0, 4, 2}, {0, 5, 2}, {1, 0, 31}, {2, 31, 31}, {3, 0, 0}};
        for (int i = 0; i < due.length; i++) {
            for (int what = 0; what < 3; what++) {
                checks.same("conflict " + i + ", what " + what, s.conflict(1, i, what), due[i][what]);
            }
        }
    }

    private static void asLeft(SurveyStore s, String after) {
        int[] due = {0, 0, 0, 2, 3, 1};
        for (int what = 0; what < due.length; what++) {
            checks.same("what " + what + after, s.conflict(0, 0, what), due[what]);
        }
    }

    private static void conflictAsLeft() {
        SurveyStore s = Stores.fork(0, 1, 2, 3);
        s.merge(0, 3);
        asLeft(s, " after the merge");
        Stores.paintOne(s, 0, 0, 0, 0, 9);
        asLeft(s, " after a paint");
        checks.same("a paint settles nothing", s.conflict(0, 0, 6), 0);
        s.settle(0, 0, 8);
        asLeft(s, " after settling");
        s.kind(0, 1);
        Stores.commitOne(s, 1, 0, 0, 0, 77);
        asLeft(s, " after what others did");
    }

    private static void conflictWhat() {
        SurveyStore s = twoConflicts();
        int[][] due = {{0, 0, 0, 2, 3, 1, 0}, {3, 0, 0, 20, 30, NONE, 0}};
        for (int i = 0; i < 2; i++) {
            for (int what = 0; what < 7; what++) {
                checks.same("conflict " + i + ", what " + what, s.conflict(0, i, what), due[i][what]);
            }
        }
        SurveyStore t = Stores.fork(0, -MOST, NONE, MOST);
        t.merge(0, 3);
        checks.same("mine is NONE", t.conflict(0, 0, 3), NONE);
        checks.same("the other's is the greatest", t.conflict(0, 0, 4), MOST);
        checks.same("the base's is the least", t.conflict(0, 0, 5), -MOST);
    }

    private static void conflictSettled() {
        SurveyStore s = twoConflicts();
        s.settle(0, 1, 20);
        checks.same("the first", s.conflict(0, 0, 6), 0);
        checks.same("the second", s.conflict(0, 1, 6), 1);
        s.settle(0, 1, 21);
        checks.same("the second, twice", s.conflict(0, 1, 6), 1);
    }

    private static void conflictNoNumber() {
        SurveyStore s = twoConflicts();
        for (int i : new int[] {-1, 2, 3, 4095, 4096, MIN, MAX}) {
            for (int what = 0; what < 7; what++) {
                checks.same("conflict " + i + ", what " + what, s.conflict(0, i, what), NONE);
            }
        }
    }

    private static void conflictNoWhat() {
        SurveyStore s = twoConflicts();
        for (int what : new int[] {-1, 7, 8, MIN, MAX}) {
            checks.same("what " + what, s.conflict(0, 0, what), NONE);
        }
    }

    private static void conflictNoBranch() {
        SurveyStore s = twoConflicts();
        for (int b : Stores.NO_BRANCHES) {
            checks.same("branch " + b, s.conflict(b, 0, 0), NONE);
        }
        checks.same("a branch without a merge", s.conflict(1, 0, 0), NONE);
        checks.same("never there", s.conflict(2, 0, 0), NONE);
        s.drop(0);
        checks.same("there no more", s.conflict(0, 0, 0), NONE);
    }

    private static void conflictNoMerge() {
        SurveyStore s = Stores.fork(0, 1, 2, 3);
        checks.same("before a merge", s.conflict(0, 0, 0), NONE);
        s.merge(0, 3);
        checks.same("after a merge", s.conflict(0, 0, 0), 0);
        s.settle(0, 0, 2);
        s.commit(0);
        checks.same("after its commit", s.conflict(0, 0, 0), NONE);
        s.merge(1, 4);
        checks.same("of a merge without any", s.conflict(1, 0, 0), NONE);
    }

    private static void settleValues() {
        for (int v : new int[] {MOST, -MOST, 0, 2, 3, NONE}) {
            SurveyStore s = twoConflicts();
            checks.same("settle", s.settle(0, 1, v), 1);
            checks.same("value", s.value(24, 3, 0, 0), v);
            int[] due = {24, 3, 0, 0};
            for (int what = 0; what < 4; what++) {
                checks.same("origin", s.origin(24, 3, 0, 0, what), v == NONE ? NONE : due[what]);
            }
            checks.same("the other conflict's cell", s.value(24, 0, 0, 0), 2);
        }
    }

    private static void settleCounts() {
        SurveyStore s = twoConflicts();
        checks.same("the second", s.settle(0, 1, 9), 1);
        checks.same("the second again", s.settle(0, 1, NONE), 1);
        checks.same("its value now", s.value(24, 3, 0, 0), NONE);
        checks.same("the first", s.settle(0, 0, 9), 0);
        checks.same("the first again", s.settle(0, 0, 8), 0);
        checks.same("its value now", s.value(24, 0, 0, 0), 8);
        checks.same("committed", s.commit(0), 6);
        checks.same("the commit has it", s.value(6, 0, 0, 0), 8);
    }

    private static void settleOfAllCells() {
        SurveyStore s = Stores.forkOfAllCells();
        s.merge(0, 2);
        checks.same("the last", s.settle(0, 4095, 3), 4095);
        checks.same("the first", s.settle(0, 0, 3), 4094);
        checks.same("value of the last", s.value(24, 3, 31, 31), 3);
        checks.same("value of the first", s.value(24, 0, 0, 0), 3);
        checks.same("value of the second", s.value(24, 0, 1, 0), 1);
    }

    private static void staysUnsettled(SurveyStore s) {
        checks.same("refused: not settled", s.conflict(0, 0, 6) + s.conflict(0, 1, 6), 0);
        checks.same("refused: value", s.value(24, 0, 0, 0), 2);
        checks.same("refused: origin", s.origin(24, 0, 0, 0, 0), 2);
    }

    private static void settleNoBranch() {
        SurveyStore s = twoConflicts();
        for (int b : Stores.NO_BRANCHES) {
            checks.illegalArgument("branch " + b, () -> s.settle(b, 0, 1));
        }
        checks.illegalArgument("never there", () -> s.settle(2, 0, 1));
        staysUnsettled(s);
        s.drop(0);
        checks.illegalArgument("there no more", () -> s.settle(0, 0, 1));
    }

    private static void settleNoConflict() {
        SurveyStore s = twoConflicts();
        for (int i : new int[] {-1, 2, 3, 4095, 4096, MIN, MAX}) {
            checks.illegalArgument("conflict " + i, () -> s.settle(0, i, 1));
        }
        checks.illegalArgument("a branch without a merge", () -> s.settle(1, 0, 1));
        staysUnsettled(s);
        s.settle(0, 0, 1);
        s.settle(0, 1, 1);
        s.commit(0);
        checks.illegalArgument("after the commit", () -> s.settle(0, 0, 1));
        s.merge(1, 6);
        checks.illegalArgument("of a merge without any", () -> s.settle(1, 0, 1));
    }

    private static void settleNoValue() {
        SurveyStore s = twoConflicts();
        for (int v : Stores.NO_VALUES) {
            checks.illegalArgument("value " + v, () -> s.settle(0, 0, v));
        }
        staysUnsettled(s);
    }
}
