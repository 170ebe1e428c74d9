/** Promises 1, 3, 4, 13, 22 and 23: commits, branches and how they hang together. */
final class HistoryTest {
    private static final int NONE = SurveyStore.NONE;
    private static final Checks checks = new Checks("HistoryTest");

    public static void main(String[] args) {
        newObject();
        branchComesToBe();
        branchRefuses();
        branchStartsAnew();
        dropping();
        committing();
        commitRefuses();
        commitOriginsBecomeItsOwn();
        commitLimit();
        nearestOfLines();
        nearestOfCrossedMerges();
        nearestRefuses();
        aboutCommits();
        aboutBranches();
        checks.end();
    }

    private static void paintOne(SurveyStore s, int b, int layer, int x, int y, int v) {
        s.region(x, y, 1, 1);
        s.paint(b, layer, v);
    }

    private static int commitOne(SurveyStore s, int b, int x, int y, int v) {
        paintOne(s, b, 0, x, y, v);
        return s.commit(b);
    }

    private static void newObject() {
        SurveyStore s = new SurveyStore();
        checks.same("new: NONE", SurveyStore.NONE, Integer.MIN_VALUE);
        checks.same("new: PENDING", SurveyStore.PENDING, 24);
        checks.same("new: head of branch 0", s.about(24, 0), 0);
        checks.same("new: merging of branch 0", s.about(24, 1), -1);
        checks.same("new: changed of branch 0", s.about(24, 2), 0);
        for (int b = 1; b < 4; b++) {
            checks.same("new: branch " + b, s.about(24 + b, 0), -1);
        }
        checks.same("new: first parent of 0", s.about(0, 0), -1);
        checks.same("new: second parent of 0", s.about(0, 1), -1);
        checks.same("new: children of 0", s.about(0, 2), 0);
        checks.same("new: children of 1", s.about(1, 2), -1);
        for (int layer = 0; layer < 4; layer++) {
            checks.same("new: values of commit 0", s.total(0, layer, 1), 0);
            checks.same("new: values of branch 0", s.total(24, layer, 1), 0);
            checks.same("new: blocks", s.blocks(layer), 0);
        }
        s.polygon(0, 0, 6, 5);
        checks.same("new: six corners at 0, 0 hold nothing", s.total(24, 0, 1), 0);
        s.map(0, 0);
        checks.same("new: an empty table maps nothing", s.total(24, 0, 1), 0);
        s.paint(0, 0, 5);
        checks.same("new: the region is all", s.total(24, 0, 1), 1024);
        s.map(0, 0);
        checks.same("new: an empty table leaves values", s.total(24, 0, 0), 5120);
    }

    private static void branchComesToBe() {
        SurveyStore s = new SurveyStore();
        commitOne(s, 0, 3, 4, 7);
        commitOne(s, 0, 3, 4, 8);
        s.branch(1, 1);
        s.branch(2, 2);
        s.branch(3, 0);
        checks.same("branch: head of 1", s.about(25, 0), 1);
        checks.same("branch: head of 2", s.about(26, 0), 2);
        checks.same("branch: head of 3", s.about(27, 0), 0);
        checks.same("branch: value of 1", s.value(25, 0, 3, 4), 7);
        checks.same("branch: value of 2", s.value(26, 0, 3, 4), 8);
        checks.same("branch: value of 3", s.value(27, 0, 3, 4), NONE);
        checks.same("branch: origin of 1", s.origin(25, 0, 3, 4, 0), 1);
        checks.same("branch: changed of 1", s.about(25, 2), 0);
        s.paint(1, 0, 9);
        checks.same("branch: painting 1 leaves its commit", s.value(1, 0, 3, 4), 7);
        checks.same("branch: painting 1 leaves the others", s.value(24, 0, 3, 4), 8);
    }

    private static void branchRefuses() {
        SurveyStore s = new SurveyStore();
        commitOne(s, 0, 0, 0, 1);
        checks.illegalArgument("branch(-1, 0)", () -> s.branch(-1, 0));
        checks.illegalArgument("branch(4, 0)", () -> s.branch(4, 0));
        checks.illegalArgument("branch(1, -1)", () -> s.branch(1, -1));
        checks.illegalArgument("branch(1, 2)", () -> s.branch(1, 2));
        checks.illegalArgument("branch(1, 24)", () -> s.branch(1, 24));
        checks.illegalArgument("branch(MIN, MAX)", () -> s.branch(Integer.MIN_VALUE, Integer.MAX_VALUE));
        checks.illegalState("branch(0, 1)", () -> s.branch(0, 1));
        checks.illegalArgument("branch(0, 2), wrong argument first", () -> s.branch(0, 2));
        s.branch(1, 1);
        checks.illegalState("branch(1, 0)", () -> s.branch(1, 0));
        checks.same("branch: refused, the head is the same", s.about(25, 0), 1);
    }

    private static void branchStartsAnew() {
        SurveyStore s = conflicting();
        checks.same("anew: conflicts before", s.merge(0, 3), 1);
        s.drop(0);
        s.branch(0, 1);
        checks.same("anew: head", s.about(24, 0), 1);
        checks.same("anew: merging", s.about(24, 1), -1);
        checks.same("anew: changed", s.about(24, 2), 0);
        checks.same("anew: conflict", s.conflict(0, 0, 0), NONE);
        checks.same("anew: value", s.value(24, 0, 0, 0), 1);
        checks.illegalArgument("anew: settle", () -> s.settle(0, 0, 1));
        paintOne(s, 0, 0, 5, 5, 5);
        checks.same("anew: no old conflict holds the commit back", s.commit(0), 4);
    }

    /** Commit 1, then 2 on branch 0 and 3 on branch 1, which both changed cell 0, 0. */
    private static SurveyStore conflicting() {
        SurveyStore s = new SurveyStore();
        commitOne(s, 0, 0, 0, 1);
        s.branch(1, 1);
        commitOne(s, 0, 0, 0, 2);
        commitOne(s, 1, 0, 0, 3);
        return s;
    }

    private static void dropping() {
        SurveyStore s = new SurveyStore();
        checks.no("drop(-1)", s.drop(-1));
        checks.no("drop(1)", s.drop(1));
        checks.no("drop(4)", s.drop(4));
        checks.no("drop(24)", s.drop(24));
        commitOne(s, 0, 1, 1, 1);
        s.branch(3, 1);
        checks.yes("drop(3)", s.drop(3));
        checks.no("drop(3) again", s.drop(3));
        checks.yes("drop(0)", s.drop(0));
        checks.same("dropped: about", s.about(24, 0), -1);
        checks.same("dropped: value", s.value(24, 0, 1, 1), NONE);
        checks.same("dropped: origin", s.origin(24, 0, 1, 1, 0), NONE);
        checks.same("dropped: differing", s.differing(24, 1, 0), -1);
        checks.same("dropped: the commit stays", s.value(1, 0, 1, 1), 1);
        checks.illegalArgument("dropped: paint", () -> s.paint(0, 0, 1));
        checks.illegalArgument("dropped: commit", () -> s.commit(0));
        checks.illegalArgument("dropped: merge", () -> s.merge(0, 1));
        checks.illegalArgument("dropped: total", () -> s.total(24, 0, 0));
    }

    private static void committing() {
        SurveyStore s = new SurveyStore();
        checks.same("commit: first", commitOne(s, 0, 0, 0, 1), 1);
        checks.same("commit: head", s.about(24, 0), 1);
        checks.same("commit: changed no more", s.about(24, 2), 0);
        s.branch(2, 0);
        checks.same("commit: on another branch", commitOne(s, 2, 1, 0, 2), 2);
        checks.same("commit: its parent", s.about(2, 0), 0);
        checks.same("commit: one parent only", s.about(2, 1), -1);
        checks.same("commit: all layers are in it", s.value(2, 0, 1, 0), 2);
        s.paint(0, 3, 9);
        checks.same("commit: not of a later paint", s.value(1, 3, 1, 0), NONE);
        checks.same("commit: merge", s.commit(0), 3);
        checks.same("merge: no conflict", s.merge(0, 2), 0);
        checks.same("commit: a merge", s.commit(0), 4);
        checks.same("commit: first parent of a merge", s.about(4, 0), 3);
        checks.same("commit: second parent of a merge", s.about(4, 1), 2);
        checks.same("commit: merging no more", s.about(24, 1), -1);
        checks.same("commit: changed no more after a merge", s.about(24, 2), 0);
        paintOne(s, 0, 0, 9, 9, 9);
        checks.same("commit: after a merge", s.commit(0), 5);
        checks.same("commit: one parent again", s.about(5, 1), -1);
    }

    private static void commitRefuses() {
        SurveyStore s = conflicting();
        checks.illegalArgument("commit(-1)", () -> s.commit(-1));
        checks.illegalArgument("commit(2)", () -> s.commit(2));
        checks.illegalArgument("commit(4)", () -> s.commit(4));
        checks.illegalState("commit(0), not changed", () -> s.commit(0));
        checks.same("merge", s.merge(0, 3), 1);
        checks.illegalState("commit(0), not settled", () -> s.commit(0));
        paintOne(s, 0, 0, 0, 0, 8);
        checks.illegalState("commit(0), painted but not settled", () -> s.commit(0));
        checks.same("commit refused: still merging", s.about(24, 1), 3);
        checks.same("commit refused: still pending", s.origin(24, 0, 0, 0, 0), 24);
        checks.same("settle", s.settle(0, 0, 8), 0);
        checks.same("commit(0), settled", s.commit(0), 4);
        checks.same("committed: conflicts are gone", s.conflict(0, 0, 0), NONE);
        checks.illegalArgument("committed: nothing to settle", () -> s.settle(0, 0, 1));
    }

    private static void commitOriginsBecomeItsOwn() {
        SurveyStore s = new SurveyStore();
        commitOne(s, 0, 0, 0, 1);
        paintOne(s, 0, 2, 31, 30, 4);
        checks.same("origin: pending", s.origin(24, 2, 31, 30, 0), 24);
        s.commit(0);
        for (int place = 2; place <= 24; place += 22) {
            checks.same("origin: of the new commit", s.origin(place, 2, 31, 30, 0), 2);
            checks.same("origin: layer", s.origin(place, 2, 31, 30, 1), 2);
            checks.same("origin: x", s.origin(place, 2, 31, 30, 2), 31);
            checks.same("origin: y", s.origin(place, 2, 31, 30, 3), 30);
            checks.same("origin: of the old commit", s.origin(place, 0, 0, 0, 0), 1);
        }
        checks.same("origin: cells without a value have none", s.origin(2, 1, 0, 0, 0), NONE);
        paintOne(s, 0, 0, 0, 0, 1);
        checks.same("changed by the origin alone", s.about(24, 2), 1);
        checks.same("committed by the origin alone", s.commit(0), 3);
        checks.same("origin: of the newest commit", s.origin(3, 0, 0, 0, 0), 3);
        checks.same("origin: commit 2 keeps its own", s.origin(2, 0, 0, 0, 0), 1);
    }

    private static void commitLimit() {
        SurveyStore s = new SurveyStore();
        for (int n = 1; n <= 23; n++) {
            checks.same("limit: commit", commitOne(s, 0, n, n, n), n);
        }
        paintOne(s, 0, 0, 0, 0, 1);
        checks.illegalState("limit: the 25th commit", () -> s.commit(0));
        checks.same("limit: still changed", s.about(24, 2), 1);
        checks.same("limit: still pending", s.origin(24, 0, 0, 0, 0), 24);
        checks.same("limit: about the last", s.about(23, 0), 22);
        checks.same("limit: the place behind the last is branch 0", s.about(24, 0), 23);
        s.branch(1, 23);
        checks.same("limit: a branch of the last", s.value(25, 0, 23, 23), 23);
    }

    private static void nearestOfLines() {
        SurveyStore s = new SurveyStore();
        commitOne(s, 0, 0, 0, 1);
        commitOne(s, 0, 0, 0, 2);
        s.branch(1, 1);
        commitOne(s, 1, 0, 0, 3);
        checks.same("nearest of a commit and itself", s.nearest(2, 2, 0), 2);
        checks.same("nearest of a commit and itself, one only", s.nearest(2, 2, 1), -1);
        checks.same("nearest of a commit and its parent", s.nearest(2, 1, 0), 1);
        checks.same("nearest of a parent and its commit", s.nearest(1, 2, 0), 1);
        checks.same("nearest of a fork", s.nearest(2, 3, 0), 1);
        checks.same("nearest of a fork, one only", s.nearest(2, 3, 1), -1);
        checks.same("nearest with commit 0", s.nearest(3, 0, 0), 0);
    }

    private static void nearestOfCrossedMerges() {
        SurveyStore s = new SurveyStore();
        s.branch(1, 0);
        commitOne(s, 0, 0, 0, 1);
        commitOne(s, 1, 1, 0, 2);
        s.merge(0, 2);
        s.commit(0);
        s.merge(1, 1);
        s.commit(1);
        checks.same("crossed: first", s.nearest(3, 4, 0), 1);
        checks.same("crossed: second", s.nearest(3, 4, 1), 2);
        checks.same("crossed: no third", s.nearest(3, 4, 2), -1);
        checks.same("crossed: the same the other way round", s.nearest(4, 3, 1), 2);
        s.merge(0, 4);
        s.commit(0);
        checks.same("crossed: merged", s.nearest(5, 4, 0), 4);
        checks.same("crossed: merged, one only", s.nearest(5, 4, 1), -1);
    }

    private static void nearestRefuses() {
        SurveyStore s = new SurveyStore();
        commitOne(s, 0, 0, 0, 1);
        checks.same("nearest(-1, 0, 0)", s.nearest(-1, 0, 0), -1);
        checks.same("nearest(0, -1, 0)", s.nearest(0, -1, 0), -1);
        checks.same("nearest(0, 2, 0)", s.nearest(0, 2, 0), -1);
        checks.same("nearest(2, 0, 0)", s.nearest(2, 0, 0), -1);
        checks.same("nearest(24, 0, 0), a branch", s.nearest(24, 0, 0), -1);
        checks.same("nearest(0, 24, 0), a branch", s.nearest(0, 24, 0), -1);
        checks.same("nearest(1, 1, -1)", s.nearest(1, 1, -1), -1);
        checks.same("nearest(1, 1, MAX)", s.nearest(1, 1, Integer.MAX_VALUE), -1);
        checks.same("nearest(1, 1, MIN)", s.nearest(1, 1, Integer.MIN_VALUE), -1);
    }

    private static void aboutCommits() {
        SurveyStore s = conflicting();
        checks.same("about: children of 1", s.about(1, 2), 2);
        checks.same("about: children of 0", s.about(0, 2), 1);
        checks.same("about: children of 3", s.about(3, 2), 0);
        s.merge(0, 3);
        checks.same("about: merging makes no child", s.about(3, 2), 0);
        s.settle(0, 0, 4);
        s.commit(0);
        checks.same("about: a second parent has a child", s.about(3, 2), 1);
        checks.same("about: a first parent has a child", s.about(2, 2), 1);
        checks.same("about: what 3", s.about(1, 3), -1);
        checks.same("about: what -1", s.about(1, -1), -1);
        checks.same("about: no such commit", s.about(5, 0), -1);
        checks.same("about: place -1", s.about(-1, 0), -1);
        checks.same("about: place MIN", s.about(Integer.MIN_VALUE, 2), -1);
    }

    private static void aboutBranches() {
        SurveyStore s = conflicting();
        checks.same("about: head", s.about(25, 0), 3);
        checks.same("about: merging with nothing", s.about(25, 1), -1);
        checks.same("about: not changed", s.about(25, 2), 0);
        s.merge(1, 2);
        checks.same("about: merging with", s.about(25, 1), 2);
        checks.same("about: a conflict leaves the cell, yet it is changed", s.about(25, 2), 1);
        paintOne(s, 0, 1, 8, 8, 8);
        checks.same("about: changed", s.about(24, 2), 1);
        paintOne(s, 0, 1, 8, 8, NONE);
        checks.same("about: changed back", s.about(24, 2), 0);
        checks.same("about: what 3", s.about(24, 3), -1);
        checks.same("about: what -1", s.about(24, -1), -1);
        checks.same("about: no such branch", s.about(26, 0), -1);
        checks.same("about: place 28", s.about(28, 0), -1);
        checks.same("about: place MAX", s.about(Integer.MAX_VALUE, 0), -1);
    }
}
