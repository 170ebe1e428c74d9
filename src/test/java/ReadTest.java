/** Promises 17 to 21 and 24: values, origins, totals, differences and blocks. */
final class ReadTest {
    private static final int NONE = SurveyStore.NONE;
    private static final int MIN = Integer.MIN_VALUE;
    private static final int MAX = Integer.MAX_VALUE;
    private static final Checks checks = new Checks("ReadTest");

    private interface Read {
        int of(int place, int layer);
    }

    public static void main(String[] args) {
        values();
        origins();
        totals();
        totalsWithoutValues();
        totalRefuses();
        differences();
        differencesOfBranches();
        differencesRefuse();
        blocksOfOneLayer();
        blocksByValuesAlone();
        blocksOfAllPlaces();
        blocksOfManyValues();
        blocksToTheBrim();
        blocksRefuse();
        checks.end();
    }

    private static void paintOne(SurveyStore s, int b, int layer, int x, int y, int v) {
        s.region(x, y, 1, 1);
        s.paint(b, layer, v);
    }

    private static SurveyStore withOneCommit() {
        SurveyStore s = new SurveyStore();
        paintOne(s, 0, 2, 31, 30, 77);
        s.commit(0);
        return s;
    }

    private static void wrongPlaces(String name, int due, Read read) {
        int[][] wrong = {
            {-1, 2}, {2, 2}, {23, 2}, {25, 2}, {27, 2}, {28, 2}, {MIN, 2}, {MAX, 2}, {1, -1}, {1, 4}, {24, 4},
            {1, MIN}, {1, MAX}};
        for (int[] w : wrong) {
            checks.same(name + " of place " + w[0] + ", layer " + w[1], read.of(w[0], w[1]), due);
        }
    }

    private static void values() {
        SurveyStore s = withOneCommit();
        checks.same("value: of a commit", s.value(1, 2, 31, 30), 77);
        checks.same("value: of a branch", s.value(24, 2, 31, 30), 77);
        checks.same("value: NONE", s.value(1, 2, 30, 31), NONE);
        checks.same("value: of another layer", s.value(1, 1, 31, 30), NONE);
        checks.same("value: of commit 0", s.value(0, 2, 31, 30), NONE);
        wrongPlaces("value", NONE, (place, layer) -> s.value(place, layer, 31, 30));
        s.region(0, 0, 32, 32);
        for (int layer = 0; layer < 4; layer++) {
            s.paint(0, layer, 5);
        }
        int[][] wrong = {{-1, 0}, {0, -1}, {32, 0}, {0, 32}, {MIN, 0}, {0, MIN}, {MAX, 0}, {0, MAX}};
        for (int[] w : wrong) {
            checks.same("value: cell " + w[0] + ", " + w[1], s.value(24, 1, w[0], w[1]), NONE);
            checks.same("origin: cell " + w[0] + ", " + w[1], s.origin(24, 1, w[0], w[1], 0), NONE);
        }
        checks.same("value: the region is nothing to it", s.value(24, 3, 31, 31), 5);
    }

    private static void origins() {
        SurveyStore s = withOneCommit();
        int[] due = {1, 2, 31, 30};
        for (int what = 0; what < 4; what++) {
            checks.same("origin: of a commit, what " + what, s.origin(1, 2, 31, 30, what), due[what]);
            checks.same("origin: of a branch, what " + what, s.origin(24, 2, 31, 30, what), due[what]);
            checks.same("origin: without a value, what " + what, s.origin(1, 2, 0, 0, what), NONE);
            int w = what;
            wrongPlaces("origin", NONE, (place, layer) -> s.origin(place, layer, 31, 30, w));
        }
        for (int what : new int[] {-1, 4, MIN, MAX}) {
            checks.same("origin: what " + what, s.origin(1, 2, 31, 30, what), NONE);
        }
    }

    private static void totals() {
        SurveyStore s = new SurveyStore();
        paintOne(s, 0, 1, 4, 4, -9);
        paintOne(s, 0, 1, 5, 4, 20);
        paintOne(s, 0, 1, 6, 6, 3);
        paintOne(s, 0, 1, 7, 7, 1000);
        s.commit(0);
        s.region(4, 4, 3, 3);
        for (int place = 1; place <= 24; place += 23) {
            checks.same("total: sum", s.total(place, 1, 0), 14);
            checks.same("total: how many", s.total(place, 1, 1), 3);
            checks.same("total: least", s.total(place, 1, 2), -9);
            checks.same("total: greatest", s.total(place, 1, 3), 20);
        }
        s.region(4, 4, 1, 1);
        checks.same("total: greatest below 0", s.total(1, 1, 3), -9);
        s.region(7, 7, 1, 1);
        checks.same("total: least above 0", s.total(1, 1, 2), 1000);
        s.region(0, 0, 32, 32);
        s.paint(0, 0, 1000000);
        checks.same("total: the greatest sum", s.total(24, 0, 0), 1024000000);
        s.paint(0, 0, -1000000);
        checks.same("total: the least sum", s.total(24, 0, 0), -1024000000);
    }

    private static void totalsWithoutValues() {
        SurveyStore s = withOneCommit();
        s.region(0, 0, 4, 4);
        checks.same("total of none: sum", s.total(1, 2, 0), 0);
        checks.same("total of none: how many", s.total(1, 2, 1), 0);
        checks.same("total of none: least", s.total(1, 2, 2), NONE);
        checks.same("total of none: greatest", s.total(1, 2, 3), NONE);
    }

    private static void totalRefuses() {
        SurveyStore s = withOneCommit();
        int[][] wrong = {
            {-1, 0, 0}, {2, 0, 0}, {23, 0, 0}, {25, 0, 0}, {28, 0, 0}, {MIN, 0, 0}, {MAX, 0, 0},
            {0, -1, 0}, {0, 4, 0}, {0, MIN, 0}, {0, MAX, 0}, {0, 0, -1}, {0, 0, 4}, {0, 0, MIN}, {0, 0, MAX}};
        for (int[] w : wrong) {
            checks.illegalArgument("total " + w[0] + " " + w[1] + " " + w[2], () -> s.total(w[0], w[1], w[2]));
        }
    }

    private static void differences() {
        SurveyStore s = new SurveyStore();
        paintOne(s, 0, 1, 31, 0, 1);
        paintOne(s, 0, 1, 2, 3, 2);
        paintOne(s, 0, 1, 0, 31, 3);
        paintOne(s, 0, 1, 31, 31, 4);
        s.commit(0);
        paintOne(s, 0, 1, 2, 3, 9);
        paintOne(s, 0, 1, 31, 31, 4);
        paintOne(s, 0, 1, 0, 31, NONE);
        s.commit(0);
        checks.same("differing: from nothing", s.differing(0, 1, 1), 4);
        int[] due = {31, 98, 992, 1023};
        for (int k = 0; k < due.length; k++) {
            checks.same("differs: from nothing " + k, s.differs(0, 1, 1, k), due[k]);
        }
        checks.same("differs: no more", s.differs(0, 1, 1, 4), -1);
        checks.same("differing: by values, not origins", s.differing(1, 2, 1), 2);
        checks.same("differing: the other way round", s.differing(2, 1, 1), 2);
        checks.same("differs: a value", s.differs(1, 2, 1, 0), 98);
        checks.same("differs: NONE", s.differs(2, 1, 1, 1), 992);
        checks.same("differs: no third", s.differs(1, 2, 1, 2), -1);
        checks.same("differing: another layer", s.differing(1, 2, 0), 0);
        checks.same("differing: from itself", s.differing(2, 2, 1), 0);
        checks.same("differs: from itself", s.differs(2, 2, 1, 0), -1);
    }

    private static void differencesOfBranches() {
        SurveyStore s = withOneCommit();
        s.branch(3, 0);
        s.paint(3, 2, 77);
        checks.same("differing: branches", s.differing(24, 27, 2), 0);
        s.region(0, 0, 32, 32);
        s.paint(3, 3, 1);
        checks.same("differing: a branch and a commit", s.differing(27, 1, 3), 1024);
        checks.same("differs: the last", s.differs(27, 1, 3, 1023), 1023);
        checks.same("differs: none behind the last", s.differs(27, 1, 3, 1024), -1);
    }

    private static void differencesRefuse() {
        SurveyStore s = withOneCommit();
        wrongPlaces("differing, first", -1, (place, layer) -> s.differing(place, 0, layer));
        wrongPlaces("differing, second", -1, (place, layer) -> s.differing(0, place, layer));
        wrongPlaces("differs, first", -1, (place, layer) -> s.differs(place, 0, layer, 0));
        wrongPlaces("differs, second", -1, (place, layer) -> s.differs(0, place, layer, 0));
        for (int k : new int[] {-1, 1, MIN, MAX}) {
            checks.same("differs: k " + k, s.differs(0, 1, 2, k), -1);
        }
    }

    private static void blocksOfOneLayer() {
        SurveyStore s = new SurveyStore();
        s.paint(0, 0, 1);
        checks.same("blocks: all the same", s.blocks(0), 1);
        checks.same("blocks: of another layer", s.blocks(1), 0);
        paintOne(s, 0, 0, 5, 9, NONE);
        checks.same("blocks: a hole", s.blocks(0), 2);
        paintOne(s, 0, 0, 6, 9, NONE);
        checks.same("blocks: a wider hole", s.blocks(0), 2);
        paintOne(s, 0, 0, 31, 31, 2);
        checks.same("blocks: the last cell", s.blocks(0), 3);
        s.region(0, 0, 32, 32);
        s.paint(0, 0, NONE);
        checks.same("blocks: nothing", s.blocks(0), 0);
        paintOne(s, 0, 0, 3, 3, 0);
        checks.same("blocks: one zero", s.blocks(0), 1);
        paintOne(s, 0, 0, 4, 4, 0);
        checks.same("blocks: a zero elsewhere in a block", s.blocks(0), 2);
        paintOne(s, 0, 0, 7, 3, 0);
        checks.same("blocks: the same block in another place", s.blocks(0), 2);
    }

    private static void blocksByValuesAlone() {
        SurveyStore s = new SurveyStore();
        paintOne(s, 0, 0, 0, 0, 1);
        s.commit(0);
        checks.same("blocks: a commit and its branch", s.blocks(0), 1);
        paintOne(s, 0, 0, 0, 0, 1);
        s.commit(0);
        checks.same("blocks: other origins are no other block", s.blocks(0), 1);
        paintOne(s, 0, 0, 8, 16, 1);
        checks.same("blocks: other places are no other block", s.blocks(0), 1);
        paintOne(s, 0, 1, 0, 0, 2);
        checks.same("blocks: other layers don't count", s.blocks(0), 1);
    }

    private static void blocksOfAllPlaces() {
        SurveyStore s = new SurveyStore();
        paintOne(s, 0, 0, 0, 0, 1);
        s.commit(0);
        paintOne(s, 0, 0, 0, 0, 2);
        s.commit(0);
        s.branch(3, 1);
        paintOne(s, 3, 0, 0, 0, 3);
        checks.same("blocks: of commits and branches", s.blocks(0), 3);
        s.drop(3);
        checks.same("blocks: a dropped branch has none", s.blocks(0), 2);
        s.drop(0);
        checks.same("blocks: the commits keep theirs", s.blocks(0), 2);
    }

    private static void blocksOfManyValues() {
        SurveyStore s = new SurveyStore();
        for (int b = 1; b < 4; b++) {
            s.branch(b, 0);
        }
        int v = 0;
        int due = 0;
        for (int b = 0; b < 4; b++) {
            for (int i = 0; i < 20; i++) {
                s.region(4 * (i % 8), 4 * (i / 8), 1 + i % 4, 1 + i % 3);
                s.paint(b, 2, v++);
                due++;
            }
        }
        checks.same("blocks: many", s.blocks(2), due);
        checks.same("blocks: many, asked again", s.blocks(2), due);
    }

    /** All 23 commits and three more branches with 64 different blocks each. */
    private static void blocksToTheBrim() {
        SurveyStore s = new SurveyStore();
        for (int i = 0; i < 32; i++) {
            s.region(i, 0, 1, 32);
            s.paint(0, 0, i);
            s.region(0, i, 32, 1);
            s.paint(0, 1, 100 * i);
        }
        s.region(0, 0, 32, 32);
        s.paint(0, 2, 10000);
        s.combine(0, 0, 1, 0);
        for (int n = 1; n < 24; n++) {
            s.commit(0);
            checks.same("blocks: after commit " + n, s.blocks(0), 64 * n);
            s.combine(0, 0, 2, 0);
        }
        checks.same("blocks: and the branch", s.blocks(0), 64 * 24);
        for (int b = 1; b < 4; b++) {
            s.branch(b, 23);
            for (int times = 0; times <= b; times++) {
                s.combine(b, 0, 2, 0);
            }
        }
        checks.same("blocks: and three more", s.blocks(0), 64 * 27);
        checks.same("blocks: of the plain layer", s.blocks(2), 1);
        checks.same("blocks: of rows", s.blocks(1), 8);
    }

    private static void blocksRefuse() {
        SurveyStore s = withOneCommit();
        for (int layer : new int[] {-1, 4, MIN, MAX}) {
            checks.same("blocks of layer " + layer, s.blocks(layer), -1);
        }
    }
}
