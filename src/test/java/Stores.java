/** What several tests need: stores in a known state, and numbers that name nothing in them. */
final class Stores {
    static final int NONE = SurveyStore.NONE;
    static final int MIN = Integer.MIN_VALUE;
    static final int MAX = Integer.MAX_VALUE;
    static final int MOST = 1000000;

    // Far ones are chosen to wrap around: 1 << 22 layers of 1024 cells and 1 << 27 rows of 32 lead
    // an unguarded index back to 0, and a shift by 32 is a shift by 0.
    static final int[] NO_LAYERS = {-1, 4, 5, 1 << 22, MIN, MAX};
    static final int[] NO_COORDINATES = {-1, 32, 33, 1 << 27, MIN, MAX};
    static final int[] NO_BRANCHES = {-1, 4, 5, 24, 32, MIN, MAX};
    static final int[] NO_VALUES = {MOST + 1, -MOST - 1, MAX, MIN + 1};

    private Stores() {
    }

    /** Numbers that are no commits where so many were made, fewer than 24. */
    static int[] noCommits(int made) {
        return new int[] {-1, made, 23, 24, 25, 32, 33, -32, MIN, MAX};
    }

    /** Numbers that are no places where so many commits were made, and only branch 0 is there. */
    static int[] noPlaces(int made) {
        return new int[] {-1, made, 23, 25, 26, 27, 28, 32, 33, -32, MIN, MIN + 24, MAX};
    }

    static void paintOne(SurveyStore s, int b, int layer, int x, int y, int v) {
        s.region(x, y, 1, 1);
        s.paint(b, layer, v);
    }

    static int commitOne(SurveyStore s, int b, int layer, int x, int y, int v) {
        paintOne(s, b, layer, x, y, v);
        return s.commit(b);
    }

    static void paintAll(SurveyStore s, int b, int layer, int v) {
        s.region(0, 0, 32, 32);
        s.paint(b, layer, v);
    }

    /** Sets corners from the first on, two numbers each. */
    static void corners(SurveyStore s, int... points) {
        for (int i = 0; i < points.length / 2; i++) {
            s.corner(i, points[2 * i], points[2 * i + 1]);
        }
    }

    /** Every cell of every layer has the value 5, in commit 1 and in branch 0, whose head it is. */
    static SurveyStore painted() {
        SurveyStore s = new SurveyStore();
        for (int layer = 0; layer < 4; layer++) {
            s.paint(0, layer, 5);
        }
        s.commit(0);
        return s;
    }

    /**
     * Cell 0, 0 of a layer: base in commit 1, mine in 2 (branch 0), other in 3 (branch 1). Each
     * commit has a cell of its own in layer 3 too, so that it can be made whatever the values.
     */
    static SurveyStore fork(int layer, int base, int mine, int other) {
        SurveyStore s = new SurveyStore();
        paintOne(s, 0, 3, 31, 0, 1);
        commitOne(s, 0, layer, 0, 0, base);
        s.branch(1, 1);
        paintOne(s, 0, 3, 30, 0, 1);
        commitOne(s, 0, layer, 0, 0, mine);
        paintOne(s, 1, 3, 29, 0, 1);
        commitOne(s, 1, layer, 0, 0, other);
        return s;
    }

    /** Branches 0 and 1 paint every cell of every layer, 1 and 2, into commits 1 and 2. */
    static SurveyStore forkOfAllCells() {
        SurveyStore s = new SurveyStore();
        paintFork(s);
        return s;
    }

    static void paintFork(SurveyStore s) {
        s.branch(1, 0);
        for (int layer = 0; layer < 4; layer++) {
            s.paint(0, layer, 1);
            s.paint(1, layer, 2);
        }
        s.commit(0);
        s.commit(1);
    }

    /**
     * Commits 1 and 2 are the nearest of 3 (branch 0) and 4 (branch 1), which each merged both;
     * cell 0, 0 of layer 0 was one, two, and then settled, where these two differed.
     */
    static SurveyStore crossed(int one, int two, int settledOne, int settledTwo) {
        SurveyStore s = new SurveyStore();
        s.branch(1, 0);
        paintOne(s, 0, 1, 1, 0, 11);
        commitOne(s, 0, 0, 0, 0, one);
        paintOne(s, 1, 1, 2, 0, 12);
        commitOne(s, 1, 0, 0, 0, two);
        mergeAndSettle(s, 0, 2, settledOne);
        mergeAndSettle(s, 1, 1, settledTwo);
        return s;
    }

    static void mergeAndSettle(SurveyStore s, int b, int commit, int v) {
        int conflicts = s.merge(b, commit);
        for (int i = 0; i < conflicts; i++) {
            s.settle(b, i, v);
        }
        s.commit(b);
    }

    /** All 24 commits are made: cell n, n of layer 0 has the value n since commit n. */
    static SurveyStore full() {
        SurveyStore s = new SurveyStore();
        for (int n = 1; n < 24; n++) {
            commitOne(s, 0, 0, n, n, n);
        }
        return s;
    }
}
