/** Promises 3, 13, 22 and 23: commits, branches and how they hang together. */
final class HistoryTest {
    private static final int NONE = SurveyStore.NONE;
    private static final Checks checks = new Checks("HistoryTest");

    public static void main(String[] args) {
        branchComesToBe();
        committing();
        commitOriginsBecomeItsOwn();
        nearestOfLines();
        aboutCommits();
        aboutBranches();
        checks.end();
    }

    private static void branchComesToBe() {
        SurveyStore s = new SurveyStore();
        Stores.commitOne(s, 0, 0, 3, 4, 7);
        Stores.commitOne(s, 0, 0, 3, 4, 8);
        s.branch(1, 1);
        s.branch(2, 2);
        s.branch(3, 0);
        checks.same("branch: head of 1", s.about(25, 0), 1);
        checks.same("branch: head of 2", s.about(26, 0), 2);
        checks.same("branch: head of 3", s.about(27, 0), 0);
        checks.same("branch: value of 1", s.value(25, 0, 3, 4), 7);
        checks.same("branch: value of 2", s.value(26, 0, 3, 4), 8);
        checks.same("branch: value of 3", s.value(27, 0, 3, 4), NONE);
        checks.same("branch: origin of 1", s.origin(25, 0, 3, 4, 0), 1);
        checks.same("branch: changed of 1", s.about(25, 2), 0);
        s.paint(1, 0, 9);
        checks.same("branch: painting 1 leaves its commit", s.value(1, 0, 3, 4), 7);
        checks.same("branch: painting 1 leaves the others", s.value(24, 0, 3, 4), 8);
    }

    private static void committing() {
        SurveyStore s = new SurveyStore();
        checks.same("commit: first", Stores.commitOne(s, 0, 0, 0, 0, 1), 1);
        checks.same("commit: head", s.about(24, 0), 1);
        checks.same("commit: changed no more", s.about(24, 2), 0);
        s.branch(2, 0);
        checks.same("commit: on another branch", Stores.commitOne(s, 2, 0, 1, 0, 2), 2);
        checks.same("commit: its parent", s.about(2, 0), 0);
        checks.same("commit: one parent only", s.about(2, 1), -1);
        checks.same("commit: all layers are in it", s.value(2, 0, 1, 0), 2);
        s.paint(0, 3, 9);
        checks.same("commit: not of a later paint", s.value(1, 3, 1, 0), NONE);
        checks.same("commit: merge", s.commit(0), 3);
        checks.same("merge: no conflict", s.merge(0, 2), 0);
        checks.same("commit: a merge", s.commit(0), 4);
        checks.same("commit: first parent of a merge", s.about(4, 0), 3);
        checks.same("commit: second parent of a merge", s.about(4, 1), 2);
        checks.same("commit: merging no more", s.about(24, 1), -1);
        checks.same("commit: changed no more after a merge", s.about(24, 2), 0);
        Stores.paintOne(s, 0, 0, 9, 9, 9);
        checks.same("commit: after a merge", s.commit(0), 5);
        checks.same("commit: one parent again", s.about(5, 1), -1);
    }

    private static void commitOriginsBecomeItsOwn() {
        SurveyStore s = new SurveyStore();
        Stores.commitOne(s, 0, 0, 0, 0, 1);
        Stores.paintOne(s, 0, 2, 31, 30, 4);
        checks.same("origin: pending", s.origin(24, 2, 31, 30, 0), 24);
        s.commit(0);
        for (int place = 2; place <= 24; place += 22) {
            checks.same("origin: of the new commit", s.origin(place, 2, 31, 30, 0), 2);
            checks.same("origin: layer", s.origin(place, 2, 31, 30, 1), 2);
            checks.same("origin: x", s.origin(place, 2, 31, 30, 2), 31);
            checks.same("origin: y", s.origin(place, 2, 31, 30, 3), 30);
            checks.same("origin: of the old commit", s.origin(place, 0, 0, 0, 0), 1);
        }
        checks.same("origin: cells without a value have none", s.origin(2, 1, 0, 0, 0), NONE);
        Stores.paintOne(s, 0, 0, 0, 0, 1);
        checks.same("changed by the origin alone", s.about(24, 2), 1);
        checks.same("committed by the origin alone", s.commit(0), 3);
        checks.same("origin: of the newest commit", s.origin(3, 0, 0, 0, 0), 3);
        checks.same("origin: commit 2 keeps its own", s.origin(2, 0, 0, 0, 0), 1);
    }

    private static void nearestOfLines() {
        SurveyStore s = new SurveyStore();
        Stores.commitOne(s, 0, 0, 0, 0, 1);
        Stores.commitOne(s, 0, 0, 0, 0, 2);
        s.branch(1, 1);
        Stores.commitOne(s, 1, 0, 0, 0, 3);
        checks.same("nearest of a commit and itself", s.nearest(2, 2, 0), 2);
        checks.same("nearest of a commit and itself, one only", s.nearest(2, 2, 1), -1);
        checks.same("nearest of a commit and its parent", s.nearest(2, 1, 0), 1);
        checks.same("nearest of a parent and its commit", s.nearest(1, 2, 0), 1);
        checks.same("nearest of a fork", s.nearest(2, 3, 0), 1);
        checks.same("nearest of a fork, one only", s.nearest(2, 3, 1), -1);
        checks.same("nearest with commit 0", s.nearest(3, 0, 0), 0);
    }

    private static void aboutCommits() {
        SurveyStore s = Stores.fork(0, 1, 2, 3);
        checks.same("about: children of 1", s.about(1, 2), 2);
        checks.same("about: children of 0", s.about(0, 2), 1);
        checks.same("about: children of 3", s.about(3, 2), 0);
        s.merge(0, 3);
        checks.same("about: merging makes no child", s.about(3, 2), 0);
        s.settle(0, 0, 4);
        s.commit(0);
        checks.same("about: a second parent has a child", s.about(3, 2), 1);
        checks.same("about: a first parent has a child", s.about(2, 2), 1);
    }

    private static void aboutBranches() {
        SurveyStore s = Stores.fork(0, 1, 2, 3);
        checks.same("about: head", s.about(25, 0), 3);
        checks.same("about: merging with nothing", s.about(25, 1), -1);
        checks.same("about: not changed", s.about(25, 2), 0);
        s.merge(1, 2);
        checks.same("about: merging with", s.about(25, 1), 2);
        checks.same("about: a conflict leaves the cell, yet it is changed", s.about(25, 2), 1);
        Stores.paintOne(s, 0, 1, 8, 8, 8);
        checks.same("about: changed", s.about(24, 2), 1);
        Stores.paintOne(s, 0, 1, 8, 8, NONE);
        checks.same("about: changed back", s.about(24, 2), 0);
    }
}
