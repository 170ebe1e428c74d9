/** The boundaries that the document's terms and its promise 1 name, a test for each sentence. */
final class TermsEdgeTest {
    private static final int NONE = Stores.NONE;
    private static final int MOST = Stores.MOST;
    private static final Checks checks = new Checks("TermsEdgeTest");

    public static void main(String[] args) {
        checks.sentence("An object is used for at most 512 calls", TermsEdgeTest::the512thCall);
        checks.sentence("CELLS x, y are 0 .. 31 each, of LAYERS 0 .. 3", TermsEdgeTest::outermostCells);
        checks.sentence("a cell has a VALUE, -1000000 .. 1000000, or NONE", TermsEdgeTest::outermostValues);
        checks.sentence("and, with a value, an ORIGIN", TermsEdgeTest::originWithAValueOnly);
        checks.sentence("a commit, and a cell (of a layer, x, y)", TermsEdgeTest::outermostOrigins);
        checks.sentence("THE REGION .., at first all", TermsEdgeTest::regionAtFirst);
        checks.sentence("A layer has a KIND, at first 0", TermsEdgeTest::kindAtFirst);
        checks.sentence("COMMITS are numbered as they are made, 0 .. 23", TermsEdgeTest::commitNumbers);
        checks.sentence("commit 0 is there, with all cells NONE", TermsEdgeTest::commitZero);
        checks.sentence("one or two PARENTS (0 has none)", TermsEdgeTest::parents);
        checks.sentence("ANCESTORS of a commit are itself, its parents and theirs", TermsEdgeTest::ancestors);
        checks.sentence("BRANCHES 0 .. 3 are there or not", TermsEdgeTest::allBranchesAndNone);
        checks.sentence("its cells that it made itself since have the origin PENDING", TermsEdgeTest::ownCells);
        checks.sentence("At first branch 0 is there, with head 0", TermsEdgeTest::branchesAtFirst);
        checks.sentence("It is CHANGED if a cell has another value", TermsEdgeTest::changedByAValue);
        checks.sentence("It is CHANGED if .. or origin than in its head", TermsEdgeTest::changedByAnOrigin);
        checks.sentence("It is CHANGED if .. or it is MERGING", TermsEdgeTest::changedByMerging);
        checks.sentence("It is MERGING .. from a merge on until it is committed", TermsEdgeTest::mergingUntil);
        checks.sentence("has the origin PENDING, .., also if the value is what it was", TermsEdgeTest::editedAgain);
        checks.sentence("one that gets none has no origin", TermsEdgeTest::editedToNone);
        checks.sentence("COPY brings value and origin", TermsEdgeTest::copyBrings);
        checks.sentence("NEAREST .. but not of another such one", TermsEdgeTest::nearestNotOfAnother);
        checks.sentence("The base's values are at first those of n1", TermsEdgeTest::baseOfOne);
        checks.sentence("then, for each further nk, they become MERGED", TermsEdgeTest::baseOfTwo);
        checks.sentence("with THE BASE of n1 .. up to the one before nk, and nk", TermsEdgeTest::baseOfThree);
        checks.sentence("conflicts are NONE there, whatever the kind", TermsEdgeTest::baseConflicts);
        checks.sentence("if a is b, o", TermsEdgeTest::mineIsBase);
        checks.sentence("else if o is b .., a", TermsEdgeTest::otherIsBase);
        checks.sentence("else if o is .. a, a", TermsEdgeTest::otherIsMine);
        checks.sentence("of GREATER the greater one (NONE is below all)", TermsEdgeTest::greater);
        checks.sentence("of LESSER the lesser (NONE is below all)", TermsEdgeTest::lesser);
        checks.sentence("of NEWER .. the greater number (NONE below)", TermsEdgeTest::newer);
        checks.sentence("of NEWER .. mine, if they are the same", TermsEdgeTest::newerOfTheSame);
        checks.sentence("all these being no conflict any more", TermsEdgeTest::decidedIsNoConflict);
        checks.sentence("of kind 0 it stays one, and the cell a", TermsEdgeTest::kindNothing);
        checks.sentence("the origin is .. (mine, if both are the same)", TermsEdgeTest::originOfTheSame);
        checks.sentence("NONE = -2147483648, PENDING = 24", TermsEdgeTest::constants);
        checks.sentence("Promise 1: Commit 0, branch 0", TermsEdgeTest::newObject);
        checks.sentence("Promise 1: no corners", TermsEdgeTest::noCorners);
        checks.sentence("Promise 1: an empty table", TermsEdgeTest::emptyTable);
        checks.end();
    }

    /** The history is full and every branch there before the last calls, which are dear ones. */
    private static void the512thCall() {
        SurveyStore s = Stores.forkOfAllCells();
        int calls = 1 + 2 * 4 + 2;
        s.branch(2, 1);
        s.branch(3, 2);
        calls += 2;
        for (int n = 3; n < 24; n++) {
            checks.same("commit " + n, Stores.commitOne(s, n % 2, 0, n, 0, n), n);
            calls += 3;
        }
        for (; calls < 510; calls++) {
            s.paint(2, 3, calls % 2 == 0 ? 1 : NONE);
        }
        checks.same("call 511, a merge of every cell", s.merge(3, 1), 4096);
        // Two plain ones, and one more of each commit since, which has one more cell of its own.
        checks.same("call 512, the blocks of all places", s.blocks(0), 2 + 21);
    }

    private static void outermostCells() {
        SurveyStore s = new SurveyStore();
        int v = 0;
        for (int layer = 0; layer < 4; layer++) {
            for (int at = 0; at < 4; at++) {
                Stores.paintOne(s, 0, layer, at % 2 * 31, at / 2 * 31, ++v);
            }
        }
        v = 0;
        s.region(0, 0, 32, 32);
        for (int layer = 0; layer < 4; layer++) {
            for (int at = 0; at < 4; at++) {
                checks.same("a corner of layer " + layer, s.value(24, layer, at % 2 * 31, at / 2 * 31), ++v);
            }
            checks.same("cells of layer " + layer, s.total(24, layer, 1), 4);
        }
        for (int c : Stores.NO_COORDINATES) {
            checks.same("x " + c, s.value(24, 1, c, 0), NONE);
            checks.same("y " + c, s.value(24, 1, 0, c), NONE);
        }
        for (int layer : Stores.NO_LAYERS) {
            checks.same("layer " + layer, s.value(24, layer, 0, 0), NONE);
        }
    }

    private static void outermostValues() {
        int[] values = {-MOST, -MOST + 1, -1, 0, 1, MOST - 1, MOST, NONE};
        SurveyStore s = new SurveyStore();
        for (int i = 0; i < values.length; i++) {
            Stores.paintOne(s, 0, 3, 31 - i, 31, values[i]);
        }
        s.commit(0);
        s.branch(3, 1);
        for (int i = 0; i < values.length; i++) {
            checks.same("in the branch", s.value(24, 3, 31 - i, 31), values[i]);
            checks.same("in the commit", s.value(1, 3, 31 - i, 31), values[i]);
            checks.same("in a branch of the commit", s.value(27, 3, 31 - i, 31), values[i]);
        }
        for (int v : Stores.NO_VALUES) {
            checks.illegalArgument("value " + v, () -> s.paint(0, 0, v));
        }
    }

    private static void originWithAValueOnly() {
        SurveyStore s = new SurveyStore();
        for (int what = 0; what < 4; what++) {
            checks.same("without a value, what " + what, s.origin(24, 0, 0, 0, what), NONE);
        }
        Stores.paintOne(s, 0, 0, 0, 0, 0);
        checks.same("with the value 0, the commit", s.origin(24, 0, 0, 0, 0), 24);
        checks.same("with the value 0, the layer", s.origin(24, 0, 0, 0, 1), 0);
        checks.same("with the value 0, x", s.origin(24, 0, 0, 0, 2), 0);
        checks.same("with the value 0, y", s.origin(24, 0, 0, 0, 3), 0);
    }

    /** The last cell of the last layer, in the last commit, with the least and greatest value. */
    private static void outermostOrigins() {
        SurveyStore s = new SurveyStore();
        for (int n = 1; n < 23; n++) {
            Stores.commitOne(s, 0, 0, 0, 0, n);
        }
        Stores.paintOne(s, 0, 3, 31, 31, -MOST);
        Stores.paintOne(s, 0, 0, 31, 0, MOST);
        checks.same("the last commit", s.commit(0), 23);
        int[] ofLast = {23, 3, 31, 31};
        int[] ofFirst = {23, 0, 31, 0};
        for (int what = 0; what < 4; what++) {
            checks.same("the least value, what " + what, s.origin(23, 3, 31, 31, what), ofLast[what]);
            checks.same("the greatest value, what " + what, s.origin(24, 0, 31, 0, what), ofFirst[what]);
        }
        checks.same("of the last commit but one", s.origin(23, 0, 0, 0, 0), 22);
    }

    private static void regionAtFirst() {
        SurveyStore s = new SurveyStore();
        s.paint(0, 2, 1);
        checks.same("how many cells", s.total(24, 2, 1), 1024);
        checks.same("the first", s.value(24, 2, 0, 0), 1);
        checks.same("the last", s.value(24, 2, 31, 31), 1);
    }

    private static void kindAtFirst() {
        checks.same("conflicts of every cell of every layer", Stores.forkOfAllCells().merge(0, 2), 4096);
    }

    private static void commitNumbers() {
        SurveyStore s = new SurveyStore();
        for (int b = 1; b < 4; b++) {
            s.branch(b, 0);
        }
        for (int n = 1; n < 24; n++) {
            checks.same("whatever the branch", Stores.commitOne(s, n % 4, 0, 0, 0, n), n);
        }
        for (int n = 1; n < 24; n++) {
            checks.same("value of commit " + n, s.value(n, 0, 0, 0), n);
        }
        Stores.paintOne(s, 0, 0, 0, 0, 99);
        checks.illegalState("no commit 24", () -> s.commit(0));
    }

    private static void commitZero() {
        SurveyStore s = new SurveyStore();
        for (int layer = 0; layer < 4; layer++) {
            checks.same("values of layer " + layer, s.total(0, layer, 1), 0);
            s.paint(0, layer, 1);
            checks.same("values after a paint", s.total(0, layer, 1), 0);
        }
        s.commit(0);
        checks.same("a value after a commit", s.value(0, 3, 31, 31), NONE);
        s.branch(1, 0);
        checks.same("a branch of it", s.total(25, 0, 1), 0);
    }

    private static void parents() {
        SurveyStore s = Stores.fork(0, 1, 2, 2);
        s.merge(0, 3);
        s.commit(0);
        checks.same("0 has no first", s.about(0, 0), -1);
        checks.same("0 has no second", s.about(0, 1), -1);
        checks.same("a commit has a first", s.about(3, 0), 1);
        checks.same("a commit has no second", s.about(3, 1), -1);
        checks.same("a merge has a first", s.about(4, 0), 2);
        checks.same("a merge has a second", s.about(4, 1), 3);
    }

    private static void ancestors() {
        SurveyStore s = Stores.crossed(NONE, NONE, 0, 0);
        for (int c = 0; c < 5; c++) {
            checks.same("itself", s.nearest(c, c, 0), c);
        }
        int[] ancestorsOfThree = {0, 1, 2, 3};
        for (int c : ancestorsOfThree) {
            checks.same("of 3: " + c, s.nearest(3, c, 0), c);
            checks.illegalState("of 3, its head: " + c, () -> s.merge(0, c));
        }
        checks.same("4 is no ancestor of 3", s.merge(0, 4), 0);
    }

    private static void allBranchesAndNone() {
        SurveyStore s = new SurveyStore();
        for (int b = 1; b < 4; b++) {
            s.branch(b, 0);
        }
        for (int b = 0; b < 4; b++) {
            s.paint(b, 0, b + 1);
        }
        for (int b = 0; b < 4; b++) {
            checks.same("all there: branch " + b, s.value(24 + b, 0, 31, 0), b + 1);
        }
        for (int b = 0; b < 4; b++) {
            s.drop(b);
        }
        for (int b = 0; b < 4; b++) {
            checks.same("none there: branch " + b, s.about(24 + b, 0), -1);
        }
        s.branch(2, 0);
        checks.same("one again", s.about(26, 0), 0);
        checks.same("the others not", s.about(25, 0), -1);
    }

    private static void ownCells() {
        SurveyStore s = Stores.painted();
        s.branch(1, 1);
        Stores.paintOne(s, 0, 0, 4, 4, 6);
        checks.same("its own", s.origin(24, 0, 4, 4, 0), 24);
        checks.same("the cell beside", s.origin(24, 0, 5, 4, 0), 1);
        checks.same("another branch's", s.origin(25, 0, 4, 4, 0), 1);
        s.commit(0);
        checks.same("its own before the commit", s.origin(24, 0, 4, 4, 0), 2);
    }

    private static void branchesAtFirst() {
        SurveyStore s = new SurveyStore();
        checks.same("head of branch 0", s.about(24, 0), 0);
        checks.same("branch 0 merges nothing", s.about(24, 1), -1);
        checks.same("branch 0 is not changed", s.about(24, 2), 0);
        for (int b = 1; b < 4; b++) {
            checks.same("branch " + b, s.about(24 + b, 0), -1);
        }
    }

    /** One cell alone differs, the first or the last of all, and then none any more. */
    private static void changedByAValue() {
        for (int at = 0; at < 2; at++) {
            SurveyStore s = new SurveyStore();
            Stores.paintOne(s, 0, 3 * at, 31 * at, 31 * at, 1);
            checks.same("a value for NONE", s.about(24, 2), 1);
            Stores.paintOne(s, 0, 3 * at, 31 * at, 31 * at, NONE);
            checks.same("NONE again", s.about(24, 2), 0);
            Stores.commitOne(s, 0, 3 * at, 31 * at, 31 * at, 1);
            checks.same("committed", s.about(24, 2), 0);
            Stores.paintOne(s, 0, 3 * at, 31 * at, 31 * at, NONE);
            checks.same("NONE for a value", s.about(24, 2), 1);
        }
    }

    private static void changedByAnOrigin() {
        SurveyStore s = Stores.painted();
        Stores.paintOne(s, 0, 3, 31, 31, 5);
        checks.same("the same value, pending", s.about(24, 2), 1);
        s.copy(0, 3, 1, 3, 31, 31);
        checks.same("the same value and origin again", s.about(24, 2), 0);
        s.copy(0, 3, 1, 3, 30, 31);
        checks.same("the same value and commit, of another x", s.about(24, 2), 1);
        s.region(30, 31, 1, 1);
        s.copy(0, 3, 1, 3, 30, 31);
        checks.same("its own x again", s.about(24, 2), 0);
        s.copy(0, 3, 1, 2, 30, 31);
        checks.same("the same value and commit, of another layer", s.about(24, 2), 1);
    }

    private static void changedByMerging() {
        SurveyStore s = Stores.fork(0, 1, 2, 1);
        s.branch(2, 1);
        Stores.commitOne(s, 2, 3, 31, 0, 1);
        checks.same("before", s.about(24, 2), 0);
        checks.same("a merge that changes no cell", s.merge(0, 4), 0);
        checks.same("no cell differs", s.differing(24, 2, 0) + s.differing(24, 2, 3), 0);
        checks.same("yet it is changed", s.about(24, 2), 1);
        checks.same("and can be committed", s.commit(0), 5);
    }

    private static void mergingUntil() {
        SurveyStore s = Stores.fork(0, 1, 2, 3);
        checks.same("before the merge", s.about(24, 1), -1);
        s.merge(0, 3);
        checks.same("after the merge", s.about(24, 1), 3);
        checks.illegalState("a refused commit", () -> s.commit(0));
        checks.same("after a refused commit", s.about(24, 1), 3);
        s.settle(0, 0, 2);
        Stores.paintOne(s, 0, 2, 2, 2, 2);
        checks.same("after settling and painting", s.about(24, 1), 3);
        s.commit(0);
        checks.same("after the commit", s.about(24, 1), -1);
    }

    private static void editedAgain() {
        SurveyStore s = Stores.painted();
        s.paint(0, 0, 5);
        checks.same("paint", s.origin(24, 0, 31, 31, 0), 24);
        Stores.corners(s, 0, 0, 32, 0, 32, 32, 0, 32);
        s.polygon(0, 1, 4, 5);
        checks.same("polygon", s.origin(24, 1, 31, 31, 0), 24);
        SurveyStore t = Stores.fork(0, 1, 2, 3);
        t.merge(0, 3);
        t.settle(0, 0, 2);
        checks.same("settle", t.origin(24, 0, 0, 0, 0), 24);
    }

    private static void editedToNone() {
        SurveyStore s = Stores.painted();
        s.paint(0, 0, NONE);
        Stores.corners(s, 0, 0, 32, 0, 32, 32, 0, 32);
        s.polygon(0, 1, 4, NONE);
        s.entry(0, 5, NONE);
        s.map(0, 2);
        SurveyStore t = Stores.fork(0, 1, 2, 3);
        t.merge(0, 3);
        t.settle(0, 0, NONE);
        for (int what = 0; what < 4; what++) {
            checks.same("paint, what " + what, s.origin(24, 0, 31, 31, what), NONE);
            checks.same("polygon, what " + what, s.origin(24, 1, 31, 31, what), NONE);
            checks.same("map, what " + what, s.origin(24, 2, 31, 31, what), NONE);
            checks.same("settle, what " + what, t.origin(24, 0, 0, 0, what), NONE);
        }
    }

    private static void copyBrings() {
        SurveyStore s = Stores.painted();
        Stores.paintOne(s, 0, 0, 7, 8, NONE);
        s.commit(0);
        s.region(6, 8, 2, 1);
        s.copy(0, 3, 2, 0, 30, 31);
        int[] due = {1, 0, 6, 8};
        for (int what = 0; what < 4; what++) {
            checks.same("origin, what " + what, s.origin(24, 3, 30, 31, what), due[what]);
            checks.same("no origin with NONE, what " + what, s.origin(24, 3, 31, 31, what), NONE);
        }
        checks.same("value", s.value(24, 3, 30, 31), 5);
        checks.same("NONE", s.value(24, 3, 31, 31), NONE);
    }

    private static void nearestNotOfAnother() {
        SurveyStore s = Stores.crossed(NONE, NONE, 0, 0);
        checks.same("1, not 0", s.nearest(3, 4, 0), 1);
        checks.same("2 too", s.nearest(3, 4, 1), 2);
        checks.same("no more", s.nearest(3, 4, 2), -1);
        s.merge(0, 4);
        s.commit(0);
        checks.same("4 alone", s.nearest(5, 4, 0), 4);
        checks.same("not 1 or 2, which are ancestors of 4", s.nearest(5, 4, 1), -1);
        nearestAre(threeMerged(), 6, 8, 2, 3, 4);
        // Commit 1 is an ancestor of the first of the two alone, then of the second alone.
        for (int longer = 0; longer < 2; longer++) {
            SurveyStore t = new SurveyStore();
            t.branch(1, 0);
            Stores.commitOne(t, longer, 0, 0, 0, 1);
            Stores.commitOne(t, 0, 0, longer, 0, 2);
            Stores.commitOne(t, 1, 0, 2, 0, 3);
            Stores.mergeAndSettle(t, 0, 3, NONE);
            Stores.mergeAndSettle(t, 1, 2, NONE);
            nearestAre(t, 4, 5, 2, 3);
        }
    }

    private static void nearestAre(SurveyStore s, int a, int b, int... due) {
        for (int k = 0; k < due.length; k++) {
            checks.same("nearest " + k + " of " + a + " and " + b, s.nearest(a, b, k), due[k]);
        }
        checks.same("no more of " + a + " and " + b, s.nearest(a, b, due.length), -1);
    }

    /**
     * Commits 2 and 4 have the parent 1, and 3 has 0; branch 0 merges them into 6, branch 1 into 8.
     * Cell 9, 9 of layer 2 is 5 in commits 1 and 4, 6 in commit 2, and NONE in commit 3.
     */
    private static SurveyStore threeMerged() {
        SurveyStore s = new SurveyStore();
        s.branch(1, 0);
        Stores.commitOne(s, 0, 2, 9, 9, 5);
        s.branch(2, 1);
        Stores.commitOne(s, 0, 2, 9, 9, 6);
        Stores.commitOne(s, 1, 0, 1, 1, 1);
        Stores.commitOne(s, 2, 0, 2, 2, 2);
        Stores.mergeAndSettle(s, 0, 3, NONE);
        Stores.mergeAndSettle(s, 0, 4, NONE);
        Stores.mergeAndSettle(s, 1, 4, NONE);
        Stores.mergeAndSettle(s, 1, 2, NONE);
        return s;
    }

    private static void baseOfOne() {
        SurveyStore s = Stores.fork(2, 7, 8, 9);
        s.merge(0, 3);
        checks.same("the value of commit 1", s.conflict(0, 0, 5), 7);
        SurveyStore t = Stores.fork(2, NONE, 8, 9);
        t.merge(0, 3);
        checks.same("NONE of commit 1", t.conflict(0, 0, 5), NONE);
    }

    private static void baseOfTwo() {
        SurveyStore s = Stores.crossed(NONE, NONE, 0, 0);
        for (int b = 0; b < 2; b++) {
            Stores.paintOne(s, b, 1, 1, 0, 21 + b);
            Stores.paintOne(s, b, 1, 2, 0, 31 + b);
            s.commit(b);
        }
        checks.same("conflicts", s.merge(0, 6), 2);
        checks.same("what commit 1 alone made", s.conflict(0, 0, 5), 11);
        checks.same("what commit 2 alone made", s.conflict(0, 1, 5), 12);
    }

    /** Three commits on 0, merged in two orders: 7 and 8 and again 7 in one cell. */
    private static void baseOfThree() {
        SurveyStore s = new SurveyStore();
        s.branch(1, 0);
        s.branch(2, 0);
        for (int b = 0; b < 3; b++) {
            Stores.paintOne(s, b, 0, b, 0, 10 + b);
            Stores.commitOne(s, b, 1, 0, 0, b == 1 ? 8 : 7);
        }
        Stores.mergeAndSettle(s, 0, 2, 20);
        Stores.mergeAndSettle(s, 0, 3, 20);
        Stores.mergeAndSettle(s, 1, 3, 21);
        Stores.mergeAndSettle(s, 1, 1, 21);
        checks.same("the first of three", s.nearest(5, 7, 0), 1);
        checks.same("the third of three", s.nearest(5, 7, 2), 3);
        checks.same("conflicts", s.merge(0, 7), 1);
        // 7 and 8 conflict, which is NONE, as their base is; so then the third's 7 is taken.
        checks.same("the base's", s.conflict(0, 0, 5), 7);
        SurveyStore t = threeMerged();
        for (int b = 0; b < 2; b++) {
            Stores.commitOne(t, b, 2, 9, 9, 20 + b);
        }
        checks.same("conflicts", t.merge(0, 10), 1);
        // The base of 2 and 3, and 4, is commit 1: so 4 has not changed the 5, but 2 has.
        checks.same("the base's, by the base of the first two", t.conflict(0, 0, 5), 6);
    }

    private static void baseConflicts() {
        for (int kind = 0; kind < 4; kind++) {
            SurveyStore s = Stores.crossed(5, 6, NONE, 6);
            s.kind(0, kind);
            checks.same("mine is the base's NONE, kind " + kind, s.merge(0, 4), 0);
            checks.same("so it is the other's, kind " + kind, s.value(24, 0, 0, 0), 6);
        }
        SurveyStore s = Stores.crossed(5, 6, 5, 6);
        checks.same("a conflict again", s.merge(0, 4), 1);
        checks.same("the base's", s.conflict(0, 0, 5), NONE);
    }

    /** Merges 3 into branch 0; every kind is tried, as none of them has a say without a conflict. */
    private static void merged(int base, int mine, int other, int due, int dueOrigin) {
        for (int kind = 0; kind < 4; kind++) {
            SurveyStore s = Stores.fork(1, base, mine, other);
            s.kind(1, kind);
            String what = base + ", " + mine + ", " + other + " of kind " + kind;
            checks.same(what + ": conflicts", s.merge(0, 3), 0);
            checks.same(what + ": value", s.value(24, 1, 0, 0), due);
            checks.same(what + ": origin", s.origin(24, 1, 0, 0, 0), dueOrigin);
        }
    }

    private static void mineIsBase() {
        merged(5, 5, 3, 3, 3);
        merged(5, 5, 7, 7, 3);
        merged(5, 5, NONE, NONE, NONE);
        merged(NONE, NONE, -MOST, -MOST, 3);
        merged(0, 0, NONE, NONE, NONE);
        merged(NONE, NONE, 0, 0, 3);
    }

    private static void otherIsBase() {
        merged(5, 3, 5, 3, 2);
        merged(5, 7, 5, 7, 2);
        merged(5, NONE, 5, NONE, NONE);
        merged(NONE, MOST, NONE, MOST, 2);
    }

    private static void otherIsMine() {
        merged(5, 7, 7, 7, 2);
        merged(NONE, 7, 7, 7, 2);
        merged(5, NONE, NONE, NONE, NONE);
    }

    private static void decided(int kind, int mine, int other, int due, int dueOrigin) {
        SurveyStore s = Stores.fork(2, 1, mine, other);
        s.kind(2, kind);
        checks.same("conflicts of " + mine + " and " + other, s.merge(0, 3), 0);
        checks.same("of " + mine + " and " + other, s.value(24, 2, 0, 0), due);
        checks.same("origin of " + mine + " and " + other, s.origin(24, 2, 0, 0, 0), dueOrigin);
    }

    private static void greater() {
        decided(1, -MOST, -MOST + 1, -MOST + 1, 3);
        decided(1, MOST, MOST - 1, MOST, 2);
        decided(1, NONE, -MOST, -MOST, 3);
        decided(1, -MOST, NONE, -MOST, 2);
    }

    private static void lesser() {
        decided(2, -MOST, -MOST + 1, -MOST, 2);
        decided(2, MOST, MOST - 1, MOST - 1, 3);
        decided(2, NONE, -MOST, NONE, NONE);
        decided(2, -MOST, NONE, NONE, NONE);
    }

    private static void newer() {
        decided(3, 9, 8, 8, 3);
        decided(3, 8, 9, 9, 3);
        decided(3, NONE, 5, 5, 3);
        decided(3, 5, NONE, 5, 2);
        SurveyStore s = Stores.fork(2, 1, 9, 8);
        s.kind(2, 3);
        s.merge(1, 2);
        checks.same("mine is newer", s.value(25, 2, 0, 0), 8);
    }

    /** Both copied their value from commit 1, from two cells of it. */
    private static void newerOfTheSame() {
        for (int b = 0; b < 2; b++) {
            SurveyStore s = new SurveyStore();
            Stores.paintOne(s, 0, 1, 0, 0, 40);
            Stores.commitOne(s, 0, 1, 1, 0, 41);
            s.branch(1, 1);
            for (int from = 0; from < 2; from++) {
                s.region(from, 0, 1, 1);
                s.copy(from, 0, 1, 1, 9, 9);
                s.commit(from);
            }
            s.kind(0, 3);
            checks.same("conflicts in branch " + b, s.merge(b, 3 - b), 0);
            checks.same("value in branch " + b, s.value(24 + b, 0, 9, 9), 40 + b);
            checks.same("origin in branch " + b, s.origin(24 + b, 0, 9, 9, 2), b);
        }
    }

    private static void decidedIsNoConflict() {
        for (int kind = 1; kind < 4; kind++) {
            SurveyStore s = Stores.forkOfAllCells();
            s.kind(2, kind);
            checks.same("conflicts of the other layers", s.merge(0, 2), 3072);
            checks.same("behind layer 1 comes layer 3", s.conflict(0, 2048, 0), 3);
            for (int layer = 0; layer < 4; layer++) {
                s.kind(layer, kind);
            }
            checks.same("conflicts of no layer", s.merge(1, 1), 0);
            checks.same("none to tell", s.conflict(1, 0, 0), NONE);
            checks.same("none to settle", s.commit(1), 3);
        }
    }

    private static void kindNothing() {
        int[][] triples = {{1, 2, 3}, {1, 3, 2}, {1, NONE, 3}, {1, 2, NONE}, {NONE, 2, 3}};
        for (int[] t : triples) {
            SurveyStore s = Stores.fork(1, t[0], t[1], t[2]);
            checks.same("conflicts", s.merge(0, 3), 1);
            checks.same("value", s.value(24, 1, 0, 0), t[1]);
            checks.same("origin", s.origin(24, 1, 0, 0, 0), t[1] == NONE ? NONE : 2);
        }
    }

    private static void originOfTheSame() {
        merged(5, 6, 6, 6, 2);
        merged(5, 5, 5, 5, 2);
        SurveyStore s = Stores.fork(1, 5, 5, 5);
        s.merge(1, 2);
        checks.same("mine in branch 1", s.origin(25, 1, 0, 0, 0), 3);
    }

    private static void constants() {
        checks.same("NONE", SurveyStore.NONE, Integer.MIN_VALUE);
        checks.same("PENDING", SurveyStore.PENDING, 24);
    }

    private static void newObject() {
        SurveyStore s = new SurveyStore();
        for (int place = -1; place < 29; place++) {
            checks.same("place " + place, s.about(place, 2), place == 0 || place == 24 ? 0 : -1);
        }
        for (int layer = 0; layer < 4; layer++) {
            checks.same("values of branch 0", s.total(24, layer, 1), 0);
            checks.same("blocks", s.blocks(layer), 0);
        }
    }

    private static void noCorners() {
        SurveyStore s = new SurveyStore();
        for (int n = 3; n <= 6; n++) {
            s.polygon(0, 0, n, 5);
            checks.same("cells inside " + n + " corners", s.total(24, 0, 1), 0);
        }
    }

    private static void emptyTable() {
        SurveyStore s = Stores.painted();
        Stores.commitOne(s, 0, 1, 3, 3, NONE);
        s.region(0, 0, 32, 32);
        for (int layer = 0; layer < 4; layer++) {
            s.map(0, layer);
        }
        checks.same("nothing is mapped", s.about(24, 2), 0);
    }
}
