/** The boundaries that promises 3, 4, 13, 22 and 23 name, a test for each sentence. */
final class HistoryEdgeTest {
    private static final int NONE = Stores.NONE;
    private static final int MIN = Stores.MIN;
    private static final int MAX = Stores.MAX;
    private static final Checks checks = new Checks("HistoryEdgeTest");

    public static void main(String[] args) {
        branchAndDrop();
        commit();
        nearest();
        about();
        checks.end();
    }

    private static void branchAndDrop() {
        checks.sentence("Promise 3: A branch that isn't there comes to be", HistoryEdgeTest::branchComesToBe);
        checks.sentence("Promise 3: with a commit as its head, 0 .. 23", HistoryEdgeTest::branchOfAnyCommit);
        checks.sentence("Promise 3: .. comes to be, after a drop, anew", HistoryEdgeTest::branchAnew);
        checks.sentence("Promise 3: there is no such branch number", HistoryEdgeTest::branchNoNumber);
        checks.sentence("Promise 3: there is no such .. commit", HistoryEdgeTest::branchNoCommit);
        checks.sentence("Promise 3: IllegalStateException: it is there", HistoryEdgeTest::branchIsThere);
        checks.sentence("Promise 4: A branch is there no more", HistoryEdgeTest::dropped);
        checks.sentence("Promise 4: false if it isn't there", HistoryEdgeTest::dropOfNone);
    }

    private static void commit() {
        checks.sentence("Promise 13: A branch becomes a commit .. its number", HistoryEdgeTest::commitBecomes);
        checks.sentence("Promise 13: pending origins are of it", HistoryEdgeTest::commitOrigins);
        checks.sentence("Promise 13: its parents are the head", HistoryEdgeTest::commitOneParent);
        checks.sentence("Promise 13: and, if it is MERGING, that commit", HistoryEdgeTest::commitTwoParents);
        checks.sentence("Promise 13: there is no such branch", HistoryEdgeTest::commitNoBranch);
        checks.sentence("Promise 13: IllegalStateException: it isn't CHANGED", HistoryEdgeTest::commitNotChanged);
        checks.sentence("Promise 13: or has conflicts that aren't settled", HistoryEdgeTest::commitNotSettled);
        checks.sentence("Promise 13: or there are 24 commits", HistoryEdgeTest::commitFull);
        checks.sentence("Promise 13: .. 24 commits, of a merge too", HistoryEdgeTest::commitFullOfAMerge);
    }

    private static void nearest() {
        checks.sentence("Promise 22: The k-th of the NEAREST .., in rising number", HistoryEdgeTest::nearestInOrder);
        checks.sentence("Promise 22: -1 if there is none: k", HistoryEdgeTest::nearestNoNumber);
        checks.sentence("Promise 22: -1 if there is none: no commit", HistoryEdgeTest::nearestNoCommit);
    }

    private static void about() {
        checks.sentence("Promise 23: its parents (-1: none)", HistoryEdgeTest::aboutParents);
        checks.sentence("Promise 23: how many commits have it as a parent", HistoryEdgeTest::aboutChildren);
        checks.sentence("Promise 23: of a branch 0 its head", HistoryEdgeTest::aboutHead);
        checks.sentence("Promise 23: 1 what it is MERGING with (-1: nothing)", HistoryEdgeTest::aboutMerging);
        checks.sentence("Promise 23: 2 whether it is CHANGED", HistoryEdgeTest::aboutChanged);
        checks.sentence("Promise 23: -1 if there is none such: place", HistoryEdgeTest::aboutNoPlace);
        checks.sentence("Promise 23: -1 if there is none such: what", HistoryEdgeTest::aboutNoWhat);
    }

    private static void branchComesToBe() {
        SurveyStore s = Stores.painted();
        for (int b = 1; b < 4; b++) {
            s.branch(b, 1);
            checks.same("head of " + b, s.about(24 + b, 0), 1);
            checks.same("merging of " + b, s.about(24 + b, 1), -1);
            checks.same("changed of " + b, s.about(24 + b, 2), 0);
            checks.same("value of " + b, s.value(24 + b, 3, 31, 31), 5);
            checks.same("origin of " + b, s.origin(24 + b, 3, 31, 31, 0), 1);
        }
        s.paint(3, 3, 6);
        checks.same("its commit stays", s.value(1, 3, 31, 31), 5);
        checks.same("another branch stays", s.value(26, 3, 31, 31), 5);
    }

    private static void branchOfAnyCommit() {
        SurveyStore s = Stores.full();
        for (int n = 0; n < 24; n++) {
            s.branch(1, n);
            checks.same("head", s.about(25, 0), n);
            checks.same("values", s.differing(25, n, 0), 0);
            checks.same("changed", s.about(25, 2), 0);
            s.drop(1);
        }
    }

    private static void branchAnew() {
        SurveyStore s = Stores.fork(0, 1, 2, 3);
        s.merge(0, 3);
        Stores.paintOne(s, 0, 2, 9, 9, 9);
        s.drop(0);
        s.branch(0, 1);
        checks.same("head", s.about(24, 0), 1);
        checks.same("merging", s.about(24, 1), -1);
        checks.same("changed", s.about(24, 2), 0);
        checks.same("value of the old conflict", s.value(24, 0, 0, 0), 1);
        checks.same("value of the old paint", s.value(24, 2, 9, 9), NONE);
        checks.same("conflict", s.conflict(0, 0, 0), NONE);
        checks.illegalArgument("settle", () -> s.settle(0, 0, 1));
        checks.same("no old conflict holds a commit back", Stores.commitOne(s, 0, 0, 5, 5, 5), 4);
        checks.same("no old merge is a parent", s.about(4, 1), -1);
    }

    private static void branchNoNumber() {
        SurveyStore s = Stores.painted();
        for (int b : Stores.NO_BRANCHES) {
            checks.illegalArgument("branch " + b, () -> s.branch(b, 1));
        }
        for (int place = 25; place < 29; place++) {
            checks.same("place " + place, s.about(place, 0), -1);
        }
    }

    private static void branchNoCommit() {
        SurveyStore s = Stores.painted();
        for (int c : Stores.noCommits(2)) {
            checks.illegalArgument("commit " + c, () -> s.branch(1, c));
        }
        checks.same("branch 1", s.about(25, 0), -1);
        checks.illegalArgument("of a branch that is there", () -> s.branch(0, 2));
    }

    private static void branchIsThere() {
        SurveyStore s = Stores.painted();
        Stores.paintOne(s, 0, 0, 0, 0, 6);
        s.branch(3, 0);
        for (int c = 0; c < 2; c++) {
            int commit = c;
            checks.illegalState("branch 0", () -> s.branch(0, commit));
            checks.illegalState("branch 3", () -> s.branch(3, commit));
        }
        checks.same("head of 0", s.about(24, 0), 1);
        checks.same("what 0 painted", s.value(24, 0, 0, 0), 6);
        checks.same("head of 3", s.about(27, 0), 0);
    }

    private static void dropped() {
        SurveyStore s = Stores.painted();
        checks.yes("drop", s.drop(0));
        checks.same("about", s.about(24, 0), -1);
        checks.same("value", s.value(24, 0, 0, 0), NONE);
        checks.same("origin", s.origin(24, 0, 0, 0, 0), NONE);
        checks.same("differing", s.differing(24, 1, 0), -1);
        checks.same("differs", s.differs(24, 0, 0, 0), -1);
        checks.same("conflict", s.conflict(0, 0, 0), NONE);
        checks.illegalArgument("total", () -> s.total(24, 0, 0));
        checks.illegalArgument("paint", () -> s.paint(0, 0, 1));
        checks.illegalArgument("commit", () -> s.commit(0));
        checks.illegalArgument("merge", () -> s.merge(0, 1));
        checks.illegalArgument("settle", () -> s.settle(0, 0, 1));
        checks.same("its commit stays", s.value(1, 0, 0, 0), 5);
        checks.same("its commit is not numbered anew", s.about(2, 0), -1);
    }

    private static void dropOfNone() {
        SurveyStore s = new SurveyStore();
        for (int b : Stores.NO_BRANCHES) {
            checks.no("drop " + b, s.drop(b));
        }
        for (int b = 1; b < 4; b++) {
            checks.no("never there: " + b, s.drop(b));
        }
        checks.same("branch 0 is still there", s.about(24, 0), 0);
        for (int b = 0; b < 4; b++) {
            if (b > 0) {
                s.branch(b, 0);
            }
            checks.yes("there: " + b, s.drop(b));
            checks.no("there no more: " + b, s.drop(b));
        }
    }

    private static void commitBecomes() {
        SurveyStore s = new SurveyStore();
        for (int n = 1; n < 24; n++) {
            checks.same("number", Stores.commitOne(s, 0, 3, 31, 31, n), n);
            checks.same("head", s.about(24, 0), n);
            checks.same("value of the commit", s.value(n, 3, 31, 31), n);
            checks.same("changed", s.about(24, 2), 0);
        }
        Stores.paintOne(s, 0, 3, 31, 31, 99);
        checks.same("a later paint isn't in it", s.value(23, 3, 31, 31), 23);
    }

    private static void commitOrigins() {
        SurveyStore s = Stores.painted();
        s.branch(1, 1);
        Stores.paintOne(s, 1, 3, 31, 31, 5);
        Stores.paintOne(s, 0, 3, 31, 31, 5);
        s.commit(0);
        for (int place = 2; place <= 24; place += 22) {
            checks.same("commit", s.origin(place, 3, 31, 31, 0), 2);
            checks.same("layer", s.origin(place, 3, 31, 31, 1), 3);
            checks.same("x", s.origin(place, 3, 31, 31, 2), 31);
            checks.same("y", s.origin(place, 3, 31, 31, 3), 31);
            checks.same("of a cell that wasn't pending", s.origin(place, 3, 30, 31, 0), 1);
        }
        checks.same("of another branch, still pending", s.origin(25, 3, 31, 31, 0), 24);
        checks.same("of the commit before", s.origin(1, 3, 31, 31, 0), 1);
        Stores.commitOne(s, 0, 0, 0, 0, NONE);
        checks.same("a cell with NONE gets none", s.origin(3, 0, 0, 0, 0), NONE);
    }

    private static void commitOneParent() {
        SurveyStore s = Stores.painted();
        s.branch(2, 0);
        Stores.commitOne(s, 2, 0, 0, 0, 1);
        checks.same("first", s.about(2, 0), 0);
        checks.same("no second", s.about(2, 1), -1);
        Stores.commitOne(s, 2, 0, 0, 0, 2);
        checks.same("first of the next", s.about(3, 0), 2);
    }

    private static void commitTwoParents() {
        SurveyStore s = Stores.fork(0, 1, 2, 2);
        s.merge(1, 2);
        s.commit(1);
        checks.same("first", s.about(4, 0), 3);
        checks.same("second", s.about(4, 1), 2);
        Stores.commitOne(s, 1, 0, 0, 0, 7);
        checks.same("no second of the next", s.about(5, 1), -1);
    }

    private static void commitNoBranch() {
        SurveyStore s = Stores.painted();
        s.branch(1, 1);
        s.paint(1, 0, 6);
        s.drop(1);
        for (int b : Stores.NO_BRANCHES) {
            checks.illegalArgument("branch " + b, () -> s.commit(b));
        }
        checks.illegalArgument("there no more", () -> s.commit(1));
        checks.illegalArgument("never there", () -> s.commit(2));
        checks.same("no commit was made", s.about(2, 0), -1);
    }

    private static void commitNotChanged() {
        SurveyStore s = new SurveyStore();
        checks.illegalState("at first", () -> s.commit(0));
        s.paint(0, 0, NONE);
        checks.illegalState("NONE for NONE", () -> s.commit(0));
        s.paint(0, 0, 1);
        s.paint(0, 0, NONE);
        checks.illegalState("changed and back", () -> s.commit(0));
        s.paint(0, 0, 1);
        checks.same("changed", s.commit(0), 1);
        checks.illegalState("again", () -> s.commit(0));
        s.copy(0, 0, 1, 0, 0, 0);
        checks.illegalState("copied from its head", () -> s.commit(0));
        s.kind(0, 3);
        s.region(0, 0, 1, 1);
        checks.illegalState("other things changed", () -> s.commit(0));
        s.paint(0, 0, 1);
        checks.same("changed in one origin", s.commit(0), 2);
        checks.same("refused ones made no commit", s.about(3, 0), -1);
    }

    private static void commitNotSettled() {
        SurveyStore s = Stores.fork(0, 1, 2, 3);
        Stores.commitOne(s, 0, 1, 9, 9, 5);
        Stores.commitOne(s, 1, 1, 9, 9, 6);
        checks.same("conflicts", s.merge(0, 5), 2);
        checks.illegalState("none settled", () -> s.commit(0));
        s.settle(0, 1, 5);
        checks.illegalState("the last settled", () -> s.commit(0));
        s.settle(0, 1, 5);
        checks.illegalState("the last settled twice", () -> s.commit(0));
        Stores.paintOne(s, 0, 0, 0, 0, 3);
        checks.illegalState("the first painted", () -> s.commit(0));
        checks.same("still merging", s.about(24, 1), 5);
        checks.same("still pending", s.origin(24, 0, 0, 0, 0), 24);
        s.settle(0, 0, NONE);
        checks.same("all settled", s.commit(0), 6);
    }

    private static void commitFull() {
        SurveyStore s = Stores.full();
        checks.same("23 commits after 0", s.about(23, 0), 22);
        Stores.paintOne(s, 0, 3, 0, 0, 1);
        s.branch(1, 0);
        s.paint(1, 3, 1);
        checks.illegalState("branch 0", () -> s.commit(0));
        checks.illegalState("branch 1", () -> s.commit(1));
        checks.same("still changed", s.about(24, 2), 1);
        checks.same("still pending", s.origin(24, 3, 0, 0, 0), 24);
        checks.same("still its head", s.about(24, 0), 23);
        checks.same("no child of 23", s.about(23, 2), 0);
        checks.same("commit 23 stays", s.value(23, 3, 0, 0), NONE);
    }

    private static void commitFullOfAMerge() {
        SurveyStore s = Stores.full();
        s.branch(1, 5);
        checks.same("a merge without conflicts", s.merge(1, 23), 0);
        checks.same("its cells", s.value(25, 0, 23, 23), 23);
        checks.illegalState("its commit", () -> s.commit(1));
        checks.same("still merging", s.about(25, 1), 23);
    }

    private static void nearestInOrder() {
        SurveyStore s = Stores.crossed(NONE, NONE, 0, 0);
        for (int way = 0; way < 2; way++) {
            checks.same("first", s.nearest(3 + way, 4 - way, 0), 1);
            checks.same("second", s.nearest(3 + way, 4 - way, 1), 2);
        }
        checks.same("of itself", s.nearest(4, 4, 0), 4);
        checks.same("of commit 0 and itself", s.nearest(0, 0, 0), 0);
        SurveyStore t = Stores.full();
        checks.same("of the last and itself", t.nearest(23, 23, 0), 23);
        checks.same("of the last and the first", t.nearest(23, 0, 0), 0);
        checks.same("of the last and one before", t.nearest(22, 23, 0), 22);
    }

    private static void nearestNoNumber() {
        SurveyStore s = Stores.crossed(NONE, NONE, 0, 0);
        for (int k : new int[] {-1, 2, 3, 32, MIN, MAX}) {
            checks.same("k " + k + " of two", s.nearest(3, 4, k), -1);
        }
        for (int k : new int[] {-1, 1, MIN, MAX}) {
            checks.same("k " + k + " of one", s.nearest(4, 4, k), -1);
        }
    }

    private static void nearestNoCommit() {
        SurveyStore s = Stores.painted();
        for (int c : Stores.noCommits(2)) {
            checks.same("first " + c, s.nearest(c, 1, 0), -1);
            checks.same("second " + c, s.nearest(1, c, 0), -1);
            checks.same("both " + c, s.nearest(c, c, 0), -1);
        }
    }

    private static void aboutParents() {
        SurveyStore s = Stores.fork(0, 1, 2, 2);
        s.merge(0, 3);
        s.commit(0);
        int[][] due = {{-1, -1}, {0, -1}, {1, -1}, {1, -1}, {2, 3}};
        for (int c = 0; c < due.length; c++) {
            checks.same("first of " + c, s.about(c, 0), due[c][0]);
            checks.same("second of " + c, s.about(c, 1), due[c][1]);
        }
    }

    private static void aboutChildren() {
        SurveyStore s = Stores.fork(0, 1, 2, 2);
        s.merge(0, 3);
        checks.same("merging makes no child", s.about(3, 2), 0);
        s.commit(0);
        int[] due = {1, 2, 1, 1, 0};
        for (int c = 0; c < due.length; c++) {
            checks.same("of " + c, s.about(c, 2), due[c]);
        }
        SurveyStore t = new SurveyStore();
        for (int n = 1; n < 24; n++) {
            Stores.commitOne(t, 0, 0, 0, 0, n);
            t.drop(0);
            t.branch(0, 0);
        }
        checks.same("as many as there can be", t.about(0, 2), 23);
        checks.same("of the last", t.about(23, 2), 0);
    }

    private static void aboutHead() {
        SurveyStore s = Stores.full();
        s.branch(1, 0);
        s.branch(3, 22);
        checks.same("of branch 0", s.about(24, 0), 23);
        checks.same("of branch 1", s.about(25, 0), 0);
        checks.same("of branch 2, not there", s.about(26, 0), -1);
        checks.same("of branch 3", s.about(27, 0), 22);
    }

    private static void aboutMerging() {
        SurveyStore s = Stores.fork(0, 1, 2, 2);
        checks.same("nothing", s.about(24, 1), -1);
        s.merge(0, 3);
        checks.same("commit 3", s.about(24, 1), 3);
        checks.same("nothing in branch 1", s.about(25, 1), -1);
        s.commit(0);
        checks.same("nothing again", s.about(24, 1), -1);
    }

    private static void aboutChanged() {
        SurveyStore s = Stores.painted();
        checks.same("no", s.about(24, 2), 0);
        Stores.paintOne(s, 0, 3, 31, 31, 5);
        checks.same("yes, by the last origin", s.about(24, 2), 1);
        s.commit(0);
        checks.same("no again", s.about(24, 2), 0);
    }

    private static void aboutNoPlace() {
        SurveyStore s = Stores.painted();
        for (int place : Stores.noPlaces(2)) {
            for (int what = 0; what < 3; what++) {
                checks.same("place " + place + ", what " + what, s.about(place, what), -1);
            }
        }
        s.drop(0);
        checks.same("there no more", s.about(24, 0), -1);
    }

    private static void aboutNoWhat() {
        SurveyStore s = Stores.painted();
        for (int what : new int[] {-1, 3, 4, MIN, MAX}) {
            checks.same("of a commit, what " + what, s.about(1, what), -1);
            checks.same("of a branch, what " + what, s.about(24, what), -1);
        }
    }
}
