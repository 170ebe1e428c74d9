/** The boundaries that promises 17 to 21 and 24 name, a test for each sentence. */
final class ReadEdgeTest {
    private static final int NONE = Stores.NONE;
    private static final int MIN = Stores.MIN;
    private static final int MAX = Stores.MAX;
    private static final int MOST = Stores.MOST;
    private static final Checks checks = new Checks("ReadEdgeTest");

    public static void main(String[] args) {
        valueAndOrigin();
        total();
        differences();
        blocks();
        checks.end();
    }

    private static void valueAndOrigin() {
        checks.sentence("Promise 17: of a commit (place 0 .. 23)", ReadEdgeTest::valueOfCommits);
        checks.sentence("Promise 17: or of a branch (24 and its number)", ReadEdgeTest::valueOfBranches);
        checks.sentence("Promise 17: NONE if there is none", ReadEdgeTest::valueOfNone);
        checks.sentence("Promise 17: or no such place", ReadEdgeTest::valueOfNoPlace);
        checks.sentence("Promise 17: or no such .. cell", ReadEdgeTest::valueOfNoCell);
        checks.sentence("Promise 18: what 0 the commit, 1 layer, 2 x, 3 y", ReadEdgeTest::originWhat);
        checks.sentence("Promise 18: NONE if it has no value", ReadEdgeTest::originOfNone);
        checks.sentence("Promise 18: NONE .., as there is no such place or cell", ReadEdgeTest::originOfNoCell);
        checks.sentence("Promise 18: no such what", ReadEdgeTest::originNoWhat);
    }

    private static void total() {
        checks.sentence("Promise 19: Of the region's values", ReadEdgeTest::totalOfTheRegion);
        checks.sentence("Promise 19: what 0 the sum", ReadEdgeTest::totalSums);
        checks.sentence("Promise 19: 1 how many", ReadEdgeTest::totalCounts);
        checks.sentence("Promise 19: 2 the least, 3 the greatest", ReadEdgeTest::totalExtremes);
        checks.sentence("Promise 19: (NONE without any)", ReadEdgeTest::totalWithoutAny);
        checks.sentence("Promise 19: there is no such place", ReadEdgeTest::totalNoPlace);
        checks.sentence("Promise 19: there is no such .. layer", ReadEdgeTest::totalNoLayer);
        checks.sentence("Promise 19: there is no such .. what", ReadEdgeTest::totalNoWhat);
    }

    private static void differences() {
        checks.sentence("Promise 20: In how many cells .. different values: none", ReadEdgeTest::differingNowhere);
        checks.sentence("Promise 20: In how many cells .. different values: all", ReadEdgeTest::differingEverywhere);
        checks.sentence("Promise 20: different values, not origins", ReadEdgeTest::differingByValues);
        checks.sentence("Promise 20: -1 if there is no such one: place", ReadEdgeTest::differingNoPlace);
        checks.sentence("Promise 20: -1 if there is no such one: layer", ReadEdgeTest::differingNoLayer);
        checks.sentence("Promise 21: The k-th of these cells in order of y, x", ReadEdgeTest::differsInOrder);
        checks.sentence("Promise 21: -1 if there is none: k", ReadEdgeTest::differsNoNumber);
        checks.sentence("Promise 21: -1 if there is none: place", ReadEdgeTest::differsNoPlace);
        checks.sentence("Promise 21: -1 if there is none: layer", ReadEdgeTest::differsNoLayer);
    }

    private static void blocks() {
        checks.sentence("Promise 24: How many different 4 by 4 blocks", ReadEdgeTest::blocksByOneCell);
        checks.sentence("Promise 24: .. different .. blocks, in one cell each", ReadEdgeTest::blocksByOneCellEach);
        checks.sentence("Promise 24: at x and y that are multiples of 4", ReadEdgeTest::blocksAtMultiples);
        checks.sentence("Promise 24: in all commits and branches together", ReadEdgeTest::blocksOfAllPlaces);
        checks.sentence("Promise 24: .. together, as many as there can be", ReadEdgeTest::blocksToTheBrim);
        checks.sentence("Promise 24: but for those without any value", ReadEdgeTest::blocksWithoutAny);
        checks.sentence("Promise 24: -1 if there is no such layer", ReadEdgeTest::blocksNoLayer);
    }

    private static void valueOfCommits() {
        SurveyStore s = Stores.full();
        for (int n = 1; n < 24; n++) {
            checks.same("commit " + n, s.value(n, 0, n, n), n);
            checks.same("the commit before " + n, s.value(n - 1, 0, n, n), NONE);
        }
    }

    private static void valueOfBranches() {
        SurveyStore s = new SurveyStore();
        for (int b = 0; b < 4; b++) {
            if (b > 0) {
                s.branch(b, 0);
            }
            Stores.paintOne(s, b, b, 31, 31, 10 + b);
        }
        for (int b = 0; b < 4; b++) {
            for (int layer = 0; layer < 4; layer++) {
                checks.same("branch " + b, s.value(24 + b, layer, 31, 31), layer == b ? 10 + b : NONE);
            }
        }
    }

    private static void valueOfNone() {
        SurveyStore s = Stores.painted();
        Stores.paintOne(s, 0, 3, 31, 31, NONE);
        checks.same("of a branch", s.value(24, 3, 31, 31), NONE);
        checks.same("of a commit", s.value(0, 3, 31, 31), NONE);
        checks.same("beside it", s.value(24, 3, 30, 31), 5);
    }

    private static void valueOfNoPlace() {
        SurveyStore s = Stores.painted();
        for (int place : Stores.noPlaces(2)) {
            checks.same("place " + place, s.value(place, 0, 0, 0), NONE);
        }
        s.drop(0);
        checks.same("a branch that is there no more", s.value(24, 0, 0, 0), NONE);
    }

    private static void valueOfNoCell() {
        SurveyStore s = Stores.painted();
        for (int place = 1; place <= 24; place += 23) {
            for (int c : Stores.NO_COORDINATES) {
                checks.same("x " + c, s.value(place, 1, c, 1), NONE);
                checks.same("y " + c, s.value(place, 1, 1, c), NONE);
            }
            for (int layer : Stores.NO_LAYERS) {
                checks.same("layer " + layer, s.value(place, layer, 1, 1), NONE);
            }
        }
    }

    private static void originWhat() {
        SurveyStore s = new SurveyStore();
        Stores.commitOne(s, 0, 2, 31, 30, -1);
        int[] due = {1, 2, 31, 30};
        for (int what = 0; what < 4; what++) {
            checks.same("of a commit, what " + what, s.origin(1, 2, 31, 30, what), due[what]);
            checks.same("of a branch, what " + what, s.origin(24, 2, 31, 30, what), due[what]);
        }
        Stores.paintOne(s, 0, 2, 31, 30, -1);
        checks.same("PENDING", s.origin(24, 2, 31, 30, 0), SurveyStore.PENDING);
    }

    private static void originOfNone() {
        SurveyStore s = Stores.painted();
        Stores.paintOne(s, 0, 3, 31, 31, NONE);
        for (int what = 0; what < 4; what++) {
            checks.same("of a branch, what " + what, s.origin(24, 3, 31, 31, what), NONE);
            checks.same("of a commit, what " + what, s.origin(0, 0, 0, 0, what), NONE);
        }
    }

    private static void originOfNoCell() {
        SurveyStore s = Stores.painted();
        for (int what = 0; what < 4; what++) {
            for (int place : Stores.noPlaces(2)) {
                checks.same("place " + place, s.origin(place, 0, 0, 0, what), NONE);
            }
            for (int c : Stores.NO_COORDINATES) {
                checks.same("x " + c, s.origin(24, 1, c, 1, what), NONE);
                checks.same("y " + c, s.origin(24, 1, 1, c, what), NONE);
            }
            for (int layer : Stores.NO_LAYERS) {
                checks.same("layer " + layer, s.origin(24, layer, 1, 1, what), NONE);
            }
        }
    }

    private static void originNoWhat() {
        SurveyStore s = Stores.painted();
        for (int what : new int[] {-1, 4, 5, MIN, MAX}) {
            checks.same("what " + what, s.origin(1, 0, 0, 0, what), NONE);
        }
    }

    /** Rings of values round a region: only what lies in it counts. */
    private static void totalOfTheRegion() {
        SurveyStore s = new SurveyStore();
        s.paint(0, 1, MOST);
        s.region(4, 9, 3, 2);
        s.paint(0, 1, -7);
        Stores.commitOne(s, 0, 1, 6, 10, 8);
        s.region(4, 9, 3, 2);
        int[] due = {-27, 6, -7, 8};
        for (int what = 0; what < 4; what++) {
            checks.same("of a commit, what " + what, s.total(1, 1, what), due[what]);
            checks.same("of a branch, what " + what, s.total(24, 1, what), due[what]);
        }
        s.region(3, 9, 3, 2);
        checks.same("a column more to the left", s.total(1, 1, 3), MOST);
        s.region(4, 9, 2, 2);
        checks.same("a column less", s.total(1, 1, 1), 4);
    }

    private static void totalSums() {
        SurveyStore s = new SurveyStore();
        s.paint(0, 0, MOST);
        s.paint(0, 1, -MOST);
        checks.same("the greatest there is", s.total(24, 0, 0), 1024 * MOST);
        checks.same("the least there is", s.total(24, 1, 0), -1024 * MOST);
        s.region(31, 31, 1, 1);
        checks.same("of one cell", s.total(24, 0, 0), MOST);
        s.paint(0, 2, 0);
        checks.same("of a 0", s.total(24, 2, 0), 0);
    }

    private static void totalCounts() {
        SurveyStore s = new SurveyStore();
        checks.same("none", s.total(24, 0, 1), 0);
        s.paint(0, 0, 0);
        checks.same("all, of 0", s.total(24, 0, 1), 1024);
        Stores.paintOne(s, 0, 0, 31, 31, NONE);
        checks.same("none in one cell", s.total(24, 0, 1), 0);
        s.region(0, 0, 32, 32);
        checks.same("all but one", s.total(24, 0, 1), 1023);
    }

    private static void totalExtremes() {
        int[][] cases = {{-MOST, MOST}, {-5, -2}, {2, 5}, {0, 0}, {-1, 0}, {0, 1}};
        for (int[] c : cases) {
            for (int first = 0; first < 2; first++) {
                SurveyStore s = new SurveyStore();
                Stores.paintOne(s, 0, 3, 0, 0, c[first]);
                Stores.paintOne(s, 0, 3, 31, 31, c[1 - first]);
                s.region(0, 0, 32, 32);
                checks.same("the least", s.total(24, 3, 2), c[0]);
                checks.same("the greatest", s.total(24, 3, 3), c[1]);
            }
        }
    }

    private static void totalWithoutAny() {
        SurveyStore s = Stores.painted();
        Stores.paintOne(s, 0, 2, 9, 9, NONE);
        checks.same("the least", s.total(24, 2, 2), NONE);
        checks.same("the greatest", s.total(24, 2, 3), NONE);
        checks.same("the sum", s.total(24, 2, 0), 0);
        checks.same("how many", s.total(24, 2, 1), 0);
        s.region(9, 9, 2, 1);
        checks.same("with one: the least", s.total(24, 2, 2), 5);
        checks.same("with one: the greatest", s.total(24, 2, 3), 5);
    }

    private static void totalNoPlace() {
        SurveyStore s = Stores.painted();
        for (int place : Stores.noPlaces(2)) {
            checks.illegalArgument("place " + place, () -> s.total(place, 0, 0));
        }
        s.drop(0);
        checks.illegalArgument("a branch that is there no more", () -> s.total(24, 0, 0));
    }

    private static void totalNoLayer() {
        SurveyStore s = Stores.painted();
        for (int layer : Stores.NO_LAYERS) {
            checks.illegalArgument("of a commit, layer " + layer, () -> s.total(1, layer, 0));
            checks.illegalArgument("of a branch, layer " + layer, () -> s.total(24, layer, 0));
        }
    }

    private static void totalNoWhat() {
        SurveyStore s = Stores.painted();
        for (int what : new int[] {-1, 4, 5, MIN, MAX}) {
            checks.illegalArgument("what " + what, () -> s.total(1, 0, what));
        }
    }

    private static void differingNowhere() {
        SurveyStore s = Stores.painted();
        checks.same("a commit and its branch", s.differing(1, 24, 3), 0);
        checks.same("a commit and itself", s.differing(1, 1, 3), 0);
        checks.same("0 and itself", s.differing(0, 0, 3), 0);
        Stores.paintOne(s, 0, 2, 0, 0, 6);
        checks.same("another layer's is not counted", s.differing(1, 24, 3), 0);
        checks.same("nor the one's behind", s.differing(1, 24, 1), 0);
        checks.same("its own is", s.differing(1, 24, 2), 1);
    }

    private static void differingEverywhere() {
        SurveyStore s = Stores.painted();
        for (int layer = 0; layer < 4; layer++) {
            checks.same("layer " + layer, s.differing(0, 24, layer), 1024);
            checks.same("layer " + layer + ", the other way round", s.differing(24, 0, layer), 1024);
        }
        Stores.paintOne(s, 0, 3, 31, 31, NONE);
        checks.same("all but the last cell", s.differing(0, 24, 3), 1023);
        Stores.paintOne(s, 0, 0, 0, 0, NONE);
        checks.same("all but the first cell", s.differing(0, 24, 0), 1023);
        s.region(0, 0, 1, 1);
        checks.same("whatever the region", s.differing(0, 24, 0), 1023);
    }

    private static void differingByValues() {
        SurveyStore s = Stores.painted();
        s.paint(0, 0, 5);
        checks.same("the same values, pending", s.differing(1, 24, 0), 0);
        s.commit(0);
        checks.same("the same values, of another commit", s.differing(1, 2, 0), 0);
        checks.same("none of them", s.differs(1, 2, 0, 0), -1);
    }

    private static void differingNoPlace() {
        SurveyStore s = Stores.painted();
        for (int place : Stores.noPlaces(2)) {
            checks.same("first " + place, s.differing(place, 0, 0), -1);
            checks.same("second " + place, s.differing(0, place, 0), -1);
            checks.same("both " + place, s.differing(place, place, 0), -1);
        }
    }

    private static void differingNoLayer() {
        SurveyStore s = Stores.painted();
        for (int layer : Stores.NO_LAYERS) {
            checks.same("layer " + layer, s.differing(0, 1, layer), -1);
        }
    }

    private static void differsInOrder() {
        SurveyStore s = new SurveyStore();
        int[][] cells = {{31, 31}, {0, 31}, {0, 0}, {31, 0}, {2, 3}, {3, 2}};
        for (int[] c : cells) {
            Stores.paintOne(s, 0, 3, c[0], c[1], 1);
        }
        int[] due = {0, 31, 67, 98, 992, 1023};
        for (int k = 0; k < due.length; k++) {
            checks.same("cell " + k, s.differs(0, 24, 3, k), due[k]);
            checks.same("cell " + k + ", the other way round", s.differs(24, 0, 3, k), due[k]);
        }
        SurveyStore t = Stores.painted();
        checks.same("the first of all", t.differs(0, 1, 0, 0), 0);
        checks.same("the last of all", t.differs(0, 1, 0, 1023), 1023);
    }

    private static void differsNoNumber() {
        SurveyStore s = Stores.painted();
        for (int k : new int[] {-1, 1024, 1025, MIN, MAX}) {
            checks.same("k " + k + " of 1024", s.differs(0, 1, 0, k), -1);
        }
        for (int k : new int[] {-1, 0, 1, MIN, MAX}) {
            checks.same("k " + k + " of none", s.differs(1, 24, 0, k), -1);
        }
    }

    private static void differsNoPlace() {
        SurveyStore s = Stores.painted();
        for (int place : Stores.noPlaces(2)) {
            checks.same("first " + place, s.differs(place, 1, 0, 0), -1);
            checks.same("second " + place, s.differs(1, place, 0, 0), -1);
        }
    }

    private static void differsNoLayer() {
        SurveyStore s = Stores.painted();
        for (int layer : Stores.NO_LAYERS) {
            checks.same("layer " + layer, s.differs(0, 1, layer, 0), -1);
        }
    }

    /** Each of the 16 cells of a block tells it from a block that differs in that cell alone. */
    private static void blocksByOneCell() {
        SurveyStore s = new SurveyStore();
        s.paint(0, 0, 1);
        checks.same("all the same", s.blocks(0), 1);
        for (int i = 0; i < 16; i++) {
            Stores.paintOne(s, 0, 0, i % 8 * 4 + i % 4, i / 8 * 4 + i / 4, i == 7 ? NONE : 2);
            checks.same("one more in cell " + i, s.blocks(0), 2 + i);
        }
        Stores.paintOne(s, 0, 0, 28, 28, 2);
        checks.same("one again elsewhere", s.blocks(0), 17);
        Stores.paintOne(s, 0, 0, 31, 31, -MOST);
        checks.same("one more in the last cell", s.blocks(0), 18);
    }

    /** 15 commits of 64 blocks with one value each, in the same cell of the block. */
    private static void blocksByOneCellEach() {
        for (int cell = 0; cell < 4; cell += 3) {
            SurveyStore s = new SurveyStore();
            for (int i = 0; i < 64; i++) {
                Stores.paintOne(s, 0, 0, i % 8 * 4 + cell, i / 8 * 4 + cell, 1000 + i);
            }
            s.region(0, 0, 32, 32);
            s.commit(0);
            s.copy(0, 1, 1, 0, 0, 0);
            for (int n = 2; n <= 15; n++) {
                s.combine(0, 0, 1, 0);
                s.commit(0);
                checks.same("after commit " + n, s.blocks(0), 64 * n);
            }
        }
    }

    private static void blocksAtMultiples() {
        SurveyStore s = new SurveyStore();
        s.region(0, 0, 4, 4);
        s.paint(0, 0, 1);
        checks.same("a whole block", s.blocks(0), 1);
        s.region(28, 28, 4, 4);
        s.paint(0, 0, 1);
        checks.same("the last one too", s.blocks(0), 1);
        s.region(10, 10, 4, 4);
        s.paint(0, 0, 1);
        checks.same("one over four blocks", s.blocks(0), 5);
    }

    private static void blocksOfAllPlaces() {
        SurveyStore s = new SurveyStore();
        Stores.commitOne(s, 0, 2, 0, 0, 1);
        Stores.commitOne(s, 0, 2, 0, 0, 2);
        checks.same("of two commits", s.blocks(2), 2);
        for (int b = 1; b < 4; b++) {
            s.branch(b, 1);
            Stores.paintOne(s, b, 2, 0, 0, 2 + b);
            checks.same("and of branch " + b, s.blocks(2), 2 + b);
        }
        Stores.paintOne(s, 2, 2, 0, 0, 5);
        checks.same("two branches with the same", s.blocks(2), 4);
        s.drop(1);
        checks.same("one that is there no more", s.blocks(2), 3);
        s.drop(0);
        checks.same("the commits keep theirs", s.blocks(2), 3);
        checks.same("of another layer", s.blocks(1), 0);
    }

    /** 23 commits and four branches with 64 different blocks each: commit 0 has none. */
    private static void blocksToTheBrim() {
        SurveyStore s = new SurveyStore();
        for (int i = 0; i < 32; i++) {
            s.region(i, 0, 1, 32);
            s.paint(0, 0, i);
            s.region(0, i, 32, 1);
            s.paint(0, 1, 100 * i);
        }
        s.region(0, 0, 32, 32);
        s.paint(0, 2, 10000);
        s.combine(0, 0, 1, 0);
        for (int n = 1; n < 24; n++) {
            s.commit(0);
            checks.same("after commit " + n, s.blocks(0), 64 * n);
            s.combine(0, 0, 2, 0);
        }
        checks.same("and the branch", s.blocks(0), 64 * 24);
        for (int b = 1; b < 4; b++) {
            s.branch(b, 23);
            for (int times = 0; times <= b; times++) {
                s.combine(b, 0, 2, 0);
            }
        }
        checks.same("and three more", s.blocks(0), 64 * 27);
        checks.same("asked again", s.blocks(0), 64 * 27);
        checks.same("of the plain layer", s.blocks(2), 1);
        checks.same("of rows", s.blocks(1), 8);
    }

    private static void blocksWithoutAny() {
        SurveyStore s = new SurveyStore();
        checks.same("at first", s.blocks(0), 0);
        Stores.paintOne(s, 0, 0, 3, 3, 0);
        checks.same("a block with one 0", s.blocks(0), 1);
        Stores.paintOne(s, 0, 0, 3, 3, NONE);
        checks.same("none again", s.blocks(0), 0);
        Stores.paintOne(s, 0, 0, 31, 31, -1);
        checks.same("the last cell alone", s.blocks(0), 1);
        Stores.paintOne(s, 0, 0, 28, 0, -1);
        checks.same("the first cell of another", s.blocks(0), 2);
    }

    private static void blocksNoLayer() {
        SurveyStore s = Stores.painted();
        for (int layer : Stores.NO_LAYERS) {
            checks.same("layer " + layer, s.blocks(layer), -1);
        }
    }
}
