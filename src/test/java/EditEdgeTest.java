/** The boundaries that promises 5 to 12 name, a test for each sentence. */
final class EditEdgeTest {
    private static final int NONE = Stores.NONE;
    private static final int MIN = Stores.MIN;
    private static final int MAX = Stores.MAX;
    private static final int MOST = Stores.MOST;
    private static final Checks checks = new Checks("EditEdgeTest");

    private interface EditOf {
        void run(int number);
    }

    public static void main(String[] args) {
        region();
        paint();
        corner();
        polygon();
        copy();
        entry();
        map();
        combine();
        checks.end();
    }

    private static void region() {
        checks.sentence("Promise 5: THE REGION becomes this", EditEdgeTest::regionBecomes);
        checks.sentence("Promise 5: false if width or height is below 1", EditEdgeTest::regionBelowOne);
        checks.sentence("Promise 5: false if .. it would leave the cells", EditEdgeTest::regionLeaves);
        checks.sentence("Promise 5: .. leave the cells, by a sum that wraps around", EditEdgeTest::regionWraps);
        checks.sentence("Promise 5: refused, the region is what it was", EditEdgeTest::regionRefused);
    }

    private static void paint() {
        checks.sentence("Promise 6: all cells of the region get a value", EditEdgeTest::paintAllOfTheRegion);
        checks.sentence("Promise 6: .. or NONE", EditEdgeTest::paintNone);
        checks.sentence("Promise 6: there is no such branch", EditEdgeTest::paintNoBranch);
        checks.sentence("Promise 6: there is no such .. layer", EditEdgeTest::paintNoLayer);
        checks.sentence("Promise 6: there is no such .. value", EditEdgeTest::paintNoValue);
    }

    private static void corner() {
        checks.sentence("Promise 7: A corner 0 .. 5", EditEdgeTest::cornerNumbers);
        checks.sentence("Promise 7: a point, 0 .. 32 each", EditEdgeTest::cornerPoints);
        checks.sentence("Promise 7: false if there is none such, and it is what it was", EditEdgeTest::cornerRefused);
    }

    private static void polygon() {
        checks.sentence("Promise 8: the first n corners (3 .. 6)", EditEdgeTest::polygonFirstCorners);
        checks.sentence("Promise 8: n below 3 or above 6", EditEdgeTest::polygonNoNumber);
        checks.sentence("Promise 8: as last set", EditEdgeTest::polygonAsLastSet);
        checks.sentence("Promise 8: at first 0, 0", EditEdgeTest::polygonAtFirst);
        checks.sentence("Promise 8: the cells whose middle lies inside", EditEdgeTest::polygonMiddles);
        checks.sentence("Promise 8: get a value, or NONE", EditEdgeTest::polygonValues);
        checks.sentence("Promise 8: right of it", EditEdgeTest::polygonRightOfIt);
        checks.sentence("Promise 8: an odd number of sides", EditEdgeTest::polygonOddSides);
        checks.sentence("Promise 8: from its lower y to below its upper one", EditEdgeTest::polygonHeights);
        checks.sentence("Promise 8: sides of no height or no width", EditEdgeTest::polygonFlat);
        checks.sentence("Promise 8: no cell but these, no region", EditEdgeTest::polygonOutsideTheRegion);
        checks.sentence("Promise 8 as 6: there is no such branch", EditEdgeTest::polygonNoBranch);
        checks.sentence("Promise 8 as 6: there is no such .. layer", EditEdgeTest::polygonNoLayer);
        checks.sentence("Promise 8 as 6: there is no such .. value", EditEdgeTest::polygonNoValue);
    }

    private static void copy() {
        checks.sentence("Promise 9: its upper left cell to x, y", EditEdgeTest::copyUpperLeft);
        checks.sentence("Promise 9: the region of a commit's layer", EditEdgeTest::copyOfAllAndOfOne);
        checks.sentence("Promise 9: there is no such commit", EditEdgeTest::copyNoCommit);
        checks.sentence("Promise 9: or it would leave the cells", EditEdgeTest::copyLeaves);
        checks.sentence("Promise 9: .. leave the cells, by a sum that wraps around", EditEdgeTest::copyWraps);
        checks.sentence("Promise 9 as 6: there is no such branch", EditEdgeTest::copyNoBranch);
        checks.sentence("Promise 9 as 6: there is no such .. layer", EditEdgeTest::copyNoLayer);
        checks.sentence("Promise 9 as 6: there is no such .. layer to copy from", EditEdgeTest::copyFromNoLayer);
    }

    private static void entry() {
        checks.sentence("Promise 10: An entry 0 .. 7 of the table", EditEdgeTest::entryNumbers);
        checks.sentence("Promise 10: (NONE or a value each)", EditEdgeTest::entryValues);
        checks.sentence("Promise 10: false if there is none such, and it is what it was", EditEdgeTest::entryRefused);
        checks.sentence("Promise 10: Entries that weren't set make NONE of NONE", EditEdgeTest::entryNotSet);
    }

    private static void map() {
        checks.sentence("Promise 11: cells of the region", EditEdgeTest::mapInTheRegion);
        checks.sentence("Promise 11: whose value is an entry's from", EditEdgeTest::mapOfNoEntry);
        checks.sentence("Promise 11: the first such one", EditEdgeTest::mapFirst);
        checks.sentence("Promise 11: if that is another value", EditEdgeTest::mapToTheSame);
        checks.sentence("Promise 11 as 6: there is no such branch", EditEdgeTest::mapNoBranch);
        checks.sentence("Promise 11 as 6: there is no such .. layer", EditEdgeTest::mapNoLayer);
    }

    private static void combine() {
        checks.sentence("Promise 12: cells of the region", EditEdgeTest::combineInTheRegion);
        checks.sentence("Promise 12: in which the second layer .. has a value", EditEdgeTest::combineWithNone);
        checks.sentence("Promise 12: get, if they have none, that", EditEdgeTest::combineOfNone);
        checks.sentence("Promise 12: the sum .., brought between -1000000 and 1000000", EditEdgeTest::combineSum);
        checks.sentence("Promise 12: the greater (1)", EditEdgeTest::combineGreater);
        checks.sentence("Promise 12: the lesser (2)", EditEdgeTest::combineLesser);
        checks.sentence("Promise 12: if that is another value", EditEdgeTest::combineToTheSame);
        checks.sentence("Promise 12: perhaps the same", EditEdgeTest::combineWithItself);
        checks.sentence("Promise 12: there is no such second layer", EditEdgeTest::combineNoSecond);
        checks.sentence("Promise 12: there is no such .. way", EditEdgeTest::combineNoWay);
        checks.sentence("Promise 12 as 6: there is no such branch", EditEdgeTest::combineNoBranch);
        checks.sentence("Promise 12 as 6: there is no such .. layer", EditEdgeTest::combineNoLayer);
    }

    /** Branch 0 of this store is as its head, and must be so still when all was refused. */
    private static void refusesAll(SurveyStore s, int[] numbers, EditOf edit) {
        for (int number : numbers) {
            checks.illegalArgument("" + number, () -> edit.run(number));
        }
        checks.same("refused: branch 0 is changed", s.about(24, 2), 0);
    }

    /** Branches 1 to 3 too: never there, or there no more. */
    private static void refusesBranches(EditOf edit, SurveyStore s) {
        s.branch(2, 1);
        s.drop(2);
        refusesAll(s, Stores.NO_BRANCHES, edit);
        refusesAll(s, new int[] {1, 2, 3}, edit);
    }

    private static void paintsOnly(SurveyStore s, int x, int y, int w, int h) {
        s.paint(0, 0, 1);
        checks.yes("region of all", s.region(0, 0, 32, 32));
        checks.same("how many cells", s.total(24, 0, 1), w * h);
        checks.same("upper left", s.value(24, 0, x, y), 1);
        checks.same("lower right", s.value(24, 0, x + w - 1, y + h - 1), 1);
    }

    private static void regionBecomes() {
        int[][] good = {
            {0, 0, 1, 1}, {31, 0, 1, 1}, {0, 31, 1, 1}, {31, 31, 1, 1}, {0, 0, 32, 32}, {0, 31, 32, 1},
            {31, 0, 1, 32}, {1, 0, 31, 32}, {0, 1, 32, 31}, {9, 20, 5, 3}};
        for (int[] g : good) {
            SurveyStore s = new SurveyStore();
            checks.yes("region", s.region(g[0], g[1], g[2], g[3]));
            paintsOnly(s, g[0], g[1], g[2], g[3]);
        }
    }

    private static void regionIsRefused(int[][] wrong) {
        SurveyStore s = new SurveyStore();
        for (int[] w : wrong) {
            String what = w[0] + ", " + w[1] + ", " + w[2] + ", " + w[3];
            checks.no(what, s.region(w[0], w[1], w[2], w[3]));
        }
        paintsOnly(s, 0, 0, 32, 32);
    }

    private static void regionBelowOne() {
        regionIsRefused(new int[][] {
            {0, 0, 0, 1}, {0, 0, 1, 0}, {0, 0, 0, 0}, {5, 5, 0, 5}, {5, 5, 5, 0}, {5, 5, -1, 5}, {5, 5, 5, -1},
            {5, 5, -5, -5}, {31, 31, 0, 1}, {32, 0, 0, 1}, {0, 0, MIN, 1}, {0, 0, 1, MIN}, {0, 0, MIN, MIN}});
    }

    private static void regionLeaves() {
        regionIsRefused(new int[][] {
            {-1, 0, 1, 1}, {0, -1, 1, 1}, {-1, 0, 33, 1}, {0, -1, 1, 33}, {-1, -1, 34, 34}, {-5, 0, 20, 20},
            {32, 0, 1, 1}, {0, 32, 1, 1}, {31, 0, 2, 1}, {0, 31, 1, 2}, {1, 0, 32, 1}, {0, 1, 1, 32},
            {0, 0, 33, 1}, {0, 0, 1, 33}, {MIN, 0, 1, 1}, {0, MIN, 1, 1}, {MAX, 0, 1, 1}, {0, MAX, 1, 1},
            {0, 0, MAX, 1}, {0, 0, 1, MAX}});
    }

    private static void regionWraps() {
        regionIsRefused(new int[][] {
            {1, 0, MAX, 1}, {0, 1, 1, MAX}, {MAX, 0, MAX, 1}, {0, MAX, 1, MAX}, {31, 31, MAX, MAX},
            {MAX, 0, 2, 1}, {0, MAX, 1, 2}, {MIN, 0, MIN, 1}, {0, MIN, 1, MIN}, {MIN, 0, MAX, 1},
            {0, MIN, 1, MAX}, {MAX - 3, 0, 5, 1}});
    }

    private static void regionRefused() {
        SurveyStore s = new SurveyStore();
        s.region(3, 5, 4, 2);
        checks.no("too wide", s.region(1, 2, 33, 3));
        checks.no("too low", s.region(1, 2, 3, 0));
        checks.no("too far", s.region(1, 32, 3, 1));
        paintsOnly(s, 3, 5, 4, 2);
    }

    private static void paintAllOfTheRegion() {
        SurveyStore s = new SurveyStore();
        s.region(9, 20, 5, 3);
        s.paint(0, 0, 1);
        checks.same("how many", s.differing(24, 0, 0), 15);
        for (int k = 0; k < 15; k++) {
            checks.same("cell " + k, s.differs(24, 0, 0, k), 32 * (20 + k / 5) + 9 + k % 5);
        }
    }

    private static void paintNone() {
        SurveyStore s = Stores.painted();
        s.region(9, 20, 5, 3);
        s.paint(0, 0, NONE);
        checks.same("how many", s.differing(24, 0, 0), 1024 - 15);
        checks.same("value", s.value(24, 0, 13, 22), NONE);
        checks.same("origin", s.origin(24, 0, 13, 22, 0), NONE);
        SurveyStore t = new SurveyStore();
        t.paint(0, 0, NONE);
        checks.same("NONE over NONE is no change", t.about(24, 2), 0);
    }

    private static void paintNoBranch() {
        SurveyStore s = Stores.painted();
        refusesBranches(b -> s.paint(b, 0, 1), s);
    }

    private static void paintNoLayer() {
        SurveyStore s = Stores.painted();
        refusesAll(s, Stores.NO_LAYERS, layer -> s.paint(0, layer, 1));
    }

    private static void paintNoValue() {
        SurveyStore s = Stores.painted();
        refusesAll(s, Stores.NO_VALUES, v -> s.paint(0, 0, v));
        s.paint(0, 0, MOST);
        s.paint(0, 1, -MOST);
        checks.same("the greatest", s.value(24, 0, 0, 0), MOST);
        checks.same("the least", s.value(24, 1, 0, 0), -MOST);
    }

    private static void cornerNumbers() {
        SurveyStore s = new SurveyStore();
        for (int i = 0; i < 6; i++) {
            checks.yes("corner " + i, s.corner(i, 1, 1));
        }
        for (int i : new int[] {-1, 6, 7, MIN, MAX}) {
            checks.no("corner " + i, s.corner(i, 1, 1));
        }
    }

    private static void cornerPoints() {
        SurveyStore s = new SurveyStore();
        int[] good = {0, 1, 31, 32};
        int[] wrong = {-1, 33, 64, MIN, MAX};
        for (int g : good) {
            checks.yes("x " + g, s.corner(0, g, 0));
            checks.yes("y " + g, s.corner(0, 0, g));
            for (int w : wrong) {
                checks.no("x " + w, s.corner(0, w, g));
                checks.no("y " + w, s.corner(0, g, w));
            }
        }
    }

    private static void cornerRefused() {
        SurveyStore s = new SurveyStore();
        Stores.corners(s, 2, 3, 6, 3, 6, 5, 2, 5);
        checks.no("x too large", s.corner(0, 33, 0));
        checks.no("y too large", s.corner(1, 0, 33));
        checks.no("x too small", s.corner(2, -1, 0));
        checks.no("y too small", s.corner(3, 0, -1));
        checks.no("no such corner", s.corner(6, 0, 0));
        s.polygon(0, 0, 4, 1);
        checks.same("how many cells", s.total(24, 0, 1), 8);
        checks.same("upper left", s.value(24, 0, 2, 3), 1);
        checks.same("lower right", s.value(24, 0, 5, 4), 1);
    }

    /** A triangle whose third corner is one of four on a line: each further one takes in more cells. */
    private static void polygonFirstCorners() {
        int[] due = {10, 16, 26, 32};
        for (int n = 3; n <= 6; n++) {
            SurveyStore s = new SurveyStore();
            Stores.corners(s, 0, 0, 4, 0, 4, 4, 4, 8, 4, 12, 4, 16);
            s.polygon(0, 0, n, 1);
            checks.same("cells inside the first " + n, s.total(24, 0, 1), due[n - 3]);
        }
    }

    private static void polygonNoNumber() {
        SurveyStore s = Stores.painted();
        Stores.corners(s, 0, 0, 9, 0, 9, 9, 0, 9, 0, 5, 0, 3);
        refusesAll(s, new int[] {2, 1, 0, -1, -3, 7, 8, MIN, MAX}, n -> s.polygon(0, 0, n, 1));
    }

    private static void polygonAsLastSet() {
        SurveyStore s = new SurveyStore();
        Stores.corners(s, 0, 0, 4, 0, 4, 4, 0, 4);
        s.polygon(0, 0, 4, 1);
        checks.same("first", s.total(24, 0, 1), 16);
        s.corner(2, 9, 9);
        s.corner(1, 8, 0);
        s.corner(2, 8, 8);
        s.corner(3, 0, 8);
        s.polygon(0, 1, 4, 1);
        checks.same("set again", s.total(24, 1, 1), 64);
        s.polygon(0, 2, 4, 1);
        checks.same("a polygon leaves them", s.total(24, 2, 1), 64);
    }

    private static void polygonAtFirst() {
        SurveyStore s = new SurveyStore();
        s.corner(1, 4, 0);
        s.corner(2, 4, 4);
        s.polygon(0, 0, 3, 1);
        checks.same("the first corner is 0, 0", s.total(24, 0, 1), 10);
        SurveyStore t = new SurveyStore();
        t.corner(0, 4, 0);
        t.corner(1, 4, 4);
        t.corner(2, 0, 4);
        t.polygon(0, 0, 4, 1);
        checks.same("the fourth corner is 0, 0", t.total(24, 0, 1), 16);
        t.polygon(0, 1, 6, 1);
        checks.same("the last three corners are 0, 0", t.total(24, 1, 1), 16);
    }

    /** Two sides lean, so that it is the middles that tell how many cells a row has. */
    private static void polygonMiddles() {
        SurveyStore s = new SurveyStore();
        Stores.corners(s, 10, 20, 16, 23, 10, 26);
        s.polygon(0, 0, 3, 1);
        int[] cellsOfRow = {1, 3, 5, 5, 3, 1};
        for (int row = 0; row < 6; row++) {
            s.region(0, 20 + row, 32, 1);
            checks.same("cells of row " + row, s.total(24, 0, 1), cellsOfRow[row]);
            checks.same("the first of row " + row, s.value(24, 0, 10, 20 + row), 1);
        }
        s.region(0, 0, 32, 32);
        checks.same("cells in all", s.total(24, 0, 1), 18);
        Stores.corners(s, 0, 0, 32, 0, 32, 32, 0, 32);
        s.polygon(0, 1, 4, 1);
        checks.same("the whole layer", s.total(24, 1, 1), 1024);
    }

    private static void polygonValues() {
        SurveyStore s = new SurveyStore();
        Stores.corners(s, 28, 28, 32, 28, 32, 32, 28, 32);
        for (int v : new int[] {MOST, -MOST, 0, NONE}) {
            s.polygon(0, 3, 4, v);
            checks.same("value", s.value(24, 3, 31, 31), v);
            checks.same("origin", s.origin(24, 3, 31, 31, 0), v == NONE ? NONE : 24);
            checks.same("beside it", s.value(24, 3, 27, 31), NONE);
        }
        checks.same("NONE is as at first", s.about(24, 2), 0);
    }

    private static void polygonRightOfIt() {
        SurveyStore s = new SurveyStore();
        Stores.corners(s, 0, 0, 4, 4, 0, 4);
        s.polygon(0, 0, 3, 1);
        checks.same("a right side through the middle", s.value(24, 0, 1, 1), NONE);
        checks.same("a right side beyond the middle", s.value(24, 0, 0, 1), 1);
        checks.same("cells left of the diagonal", s.total(24, 0, 1), 6);
        Stores.corners(s, 0, 0, 4, 0, 4, 4);
        s.polygon(0, 1, 3, 1);
        checks.same("a left side through the middle", s.value(24, 1, 1, 1), 1);
        checks.same("cells on the diagonal and right of it", s.total(24, 1, 1), 10);
        Stores.corners(s, 32, 0, 32, 32, 0, 32);
        s.polygon(0, 2, 3, 1);
        checks.same("a left side that rises to the right", s.total(24, 2, 1), 16 * 33);
    }

    /** In row 4 there are, from the left, 6, 5, 4, 3, 2, 1 and no sides right of a cell. */
    private static void polygonOddSides() {
        SurveyStore s = new SurveyStore();
        Stores.corners(s, 0, 0, 4, 8, 8, 0, 12, 8, 16, 0, 16, 20);
        s.polygon(0, 0, 6, 1);
        String row = "..##..####....##................";
        for (int x = 0; x < 32; x++) {
            checks.same("cell " + x, s.value(24, 0, x, 4), row.charAt(x) == '#' ? 1 : NONE);
        }
        Stores.corners(s, 0, 0, 8, 0, 8, 8, 0, 0, 8, 0, 8, 8);
        s.polygon(0, 1, 6, 1);
        checks.same("every side twice", s.total(24, 1, 1), 0);
    }

    private static void polygonHeights() {
        SurveyStore s = new SurveyStore();
        Stores.corners(s, 5, 7, 9, 7, 9, 8, 5, 8);
        s.polygon(0, 0, 4, 1);
        checks.same("one row", s.total(24, 0, 1), 4);
        checks.same("from its lower y", s.value(24, 0, 5, 7), 1);
        checks.same("to below its upper one", s.value(24, 0, 5, 8), NONE);
        checks.same("not above it", s.value(24, 0, 5, 6), NONE);
        Stores.corners(s, 5, 8, 9, 8, 9, 7, 5, 7);
        s.polygon(0, 1, 4, 1);
        checks.same("the other way round", s.differing(24, 0, 1), 4);
        checks.same("the other way round, the cell", s.differs(24, 0, 1, 0), 32 * 7 + 5);
    }

    private static void polygonFlat() {
        SurveyStore s = new SurveyStore();
        Stores.corners(s, 0, 5, 32, 5, 16, 5);
        s.polygon(0, 0, 3, 1);
        Stores.corners(s, 9, 0, 9, 32, 9, 16);
        s.polygon(0, 0, 3, 1);
        Stores.corners(s, 32, 32, 32, 32, 32, 32, 32, 32, 32, 32, 32, 32);
        s.polygon(0, 0, 6, 1);
        checks.same("no cells", s.total(24, 0, 1), 0);
        Stores.corners(s, 0, 0, 4, 0, 8, 0, 8, 2, 4, 2, 0, 2);
        s.polygon(0, 0, 6, 1);
        checks.same("corners on a straight side", s.total(24, 0, 1), 16);
    }

    private static void polygonOutsideTheRegion() {
        SurveyStore s = new SurveyStore();
        Stores.corners(s, 2, 3, 6, 3, 6, 5, 2, 5);
        s.region(20, 20, 1, 1);
        s.polygon(0, 1, 4, 7);
        s.region(0, 0, 32, 32);
        checks.same("cells", s.total(24, 1, 1), 8);
        checks.same("the region's cell", s.value(24, 1, 20, 20), NONE);
    }

    private static SurveyStore withPolygon() {
        SurveyStore s = Stores.painted();
        Stores.corners(s, 0, 0, 32, 0, 32, 32, 0, 32);
        return s;
    }

    private static void polygonNoBranch() {
        SurveyStore s = withPolygon();
        refusesBranches(b -> s.polygon(b, 0, 4, 1), s);
    }

    private static void polygonNoLayer() {
        SurveyStore s = withPolygon();
        refusesAll(s, Stores.NO_LAYERS, layer -> s.polygon(0, layer, 4, 1));
    }

    private static void polygonNoValue() {
        SurveyStore s = withPolygon();
        refusesAll(s, Stores.NO_VALUES, v -> s.polygon(0, 0, 4, v));
    }

    private static void copyUpperLeft() {
        SurveyStore s = new SurveyStore();
        Stores.paintOne(s, 0, 0, 2, 3, 5);
        Stores.commitOne(s, 0, 0, 5, 4, 6);
        s.region(2, 3, 4, 2);
        int[][] good = {{0, 0}, {28, 0}, {0, 30}, {28, 30}, {7, 9}};
        for (int[] g : good) {
            s.copy(0, 1, 1, 0, g[0], g[1]);
            checks.same("upper left", s.value(24, 1, g[0], g[1]), 5);
            checks.same("lower right", s.value(24, 1, g[0] + 3, g[1] + 1), 6);
        }
        checks.same("cells of five copies", s.differing(24, 0, 1), 10);
    }

    private static void copyOfAllAndOfOne() {
        SurveyStore s = Stores.painted();
        s.copy(0, 1, 0, 2, 0, 0);
        checks.same("all, of NONE", s.total(24, 1, 1), 0);
        s.copy(0, 1, 1, 2, 0, 0);
        checks.same("all, of values", s.total(24, 1, 1), 1024);
        s.region(31, 31, 1, 1);
        s.copy(0, 0, 0, 3, 0, 0);
        checks.same("one cell", s.differing(24, 1, 0), 1);
        checks.same("the cell", s.differs(24, 1, 0, 0), 0);
    }

    private static void copyNoCommit() {
        SurveyStore s = Stores.painted();
        refusesAll(s, Stores.noCommits(2), commit -> s.copy(0, 1, commit, 0, 0, 0));
    }

    private static void copyIsRefused(SurveyStore s, int[][] wrong) {
        for (int[] w : wrong) {
            checks.illegalArgument("to " + w[0] + ", " + w[1], () -> s.copy(0, 1, 0, 0, w[0], w[1]));
        }
        checks.same("refused: branch 0 is changed", s.about(24, 2), 0);
    }

    private static void copyLeaves() {
        SurveyStore s = Stores.painted();
        copyIsRefused(s, new int[][] {{1, 0}, {0, 1}, {-1, 0}, {0, -1}});
        s.region(5, 6, 4, 8);
        copyIsRefused(s, new int[][] {{29, 0}, {0, 25}, {29, 25}, {-1, 0}, {0, -1}, {32, 0}, {0, 32}});
        s.region(31, 31, 1, 1);
        copyIsRefused(s, new int[][] {{32, 0}, {0, 32}, {-1, 31}, {31, -1}});
        s.copy(0, 1, 0, 0, 31, 31);
        checks.same("to the last cell", s.value(24, 1, 31, 31), NONE);
    }

    private static void copyWraps() {
        SurveyStore s = Stores.painted();
        int[][] far = {{MAX, 0}, {0, MAX}, {MIN, 0}, {0, MIN}, {MAX, MAX}, {MAX - 31, 0}, {0, MAX - 31}, {0, 1 << 27}};
        copyIsRefused(s, far);
        s.region(5, 6, 4, 8);
        copyIsRefused(s, far);
    }

    private static void copyNoBranch() {
        SurveyStore s = Stores.painted();
        refusesBranches(b -> s.copy(b, 0, 0, 0, 0, 0), s);
    }

    private static void copyNoLayer() {
        SurveyStore s = Stores.painted();
        refusesAll(s, Stores.NO_LAYERS, layer -> s.copy(0, layer, 0, 0, 0, 0));
    }

    private static void copyFromNoLayer() {
        SurveyStore s = Stores.painted();
        refusesAll(s, Stores.NO_LAYERS, from -> s.copy(0, 0, 0, from, 0, 0));
    }

    private static void entryNumbers() {
        SurveyStore s = Stores.painted();
        for (int i = 0; i < 8; i++) {
            checks.yes("entry " + i, s.entry(i, i, 100 + i));
        }
        for (int i : new int[] {-1, 8, 9, MIN, MAX}) {
            checks.no("entry " + i, s.entry(i, 5, 6));
        }
        for (int i = 0; i < 8; i++) {
            Stores.paintOne(s, 0, 0, i, 0, i);
        }
        s.region(0, 0, 8, 1);
        s.map(0, 0);
        for (int i = 0; i < 8; i++) {
            checks.same("mapped by entry " + i, s.value(24, 0, i, 0), 100 + i);
        }
    }

    private static void entryValues() {
        SurveyStore s = Stores.painted();
        int[] good = {MOST, -MOST, 0, NONE};
        for (int g : good) {
            checks.yes("from " + g, s.entry(7, g, 1));
            checks.yes("to " + g, s.entry(7, 1, g));
            for (int w : Stores.NO_VALUES) {
                checks.no("from " + w, s.entry(0, w, g));
                checks.no("to " + w, s.entry(0, g, w));
            }
        }
        for (int g : good) {
            s.entry(0, 5, g);
            s.region(0, 0, 1, 1);
            s.copy(0, 0, 1, 0, 0, 0);
            s.map(0, 0);
            checks.same("5 becomes", s.value(24, 0, 0, 0), g);
            s.entry(0, g, 77);
            s.map(0, 0);
            checks.same("and that 77", s.value(24, 0, 0, 0), 77);
        }
    }

    private static void entryRefused() {
        SurveyStore s = Stores.painted();
        s.entry(0, 5, 6);
        checks.no("from too large", s.entry(0, MOST + 1, 8));
        checks.no("to too large", s.entry(0, 4, MOST + 1));
        checks.no("from too small", s.entry(0, -MOST - 1, 8));
        checks.no("to too small", s.entry(0, 4, -MOST - 1));
        checks.no("no such entry", s.entry(8, 5, 9));
        s.map(0, 0);
        checks.same("5 becomes", s.total(24, 0, 0), 6 * 1024);
    }

    private static void entryNotSet() {
        SurveyStore s = Stores.painted();
        Stores.commitOne(s, 0, 0, 4, 4, NONE);
        Stores.commitOne(s, 0, 0, 5, 5, 0);
        s.entry(7, NONE, 9);
        s.region(0, 0, 32, 32);
        s.map(0, 0);
        checks.same("NONE stays, as an entry before makes NONE of it", s.about(24, 2), 0);
        for (int i = 0; i < 7; i++) {
            s.entry(i, 77, 78);
        }
        s.map(0, 0);
        checks.same("NONE becomes 9 where no other entry is for it", s.value(24, 0, 4, 4), 9);
        checks.same("0 isn't NONE", s.value(24, 0, 5, 5), 0);
    }

    /** A region of 15 cells that an edit made 7, one by one. */
    private static void changedInTheRegion(SurveyStore s) {
        checks.same("how many", s.differing(24, 1, 0), 15);
        for (int k = 0; k < 15; k++) {
            checks.same("cell " + k, s.differs(24, 1, 0, k), 32 * (20 + k / 5) + 9 + k % 5);
        }
        checks.same("the sum", s.total(24, 0, 0), 15 * 7);
    }

    private static void mapInTheRegion() {
        SurveyStore s = Stores.painted();
        s.entry(0, 5, 7);
        s.region(9, 20, 5, 3);
        s.map(0, 0);
        changedInTheRegion(s);
    }

    private static void mapOfNoEntry() {
        SurveyStore s = Stores.painted();
        s.entry(0, 4, 1);
        s.entry(1, 6, 1);
        s.entry(2, -5, 1);
        s.entry(3, 0, 1);
        s.map(0, 0);
        checks.same("5 is no entry's from", s.about(24, 2), 0);
    }

    private static void mapFirst() {
        SurveyStore s = Stores.painted();
        s.entry(7, 5, 70);
        s.entry(2, 5, 6);
        s.entry(3, 6, 60);
        s.entry(4, 5, 50);
        s.map(0, 0);
        checks.same("the first, and not on from there", s.value(24, 0, 31, 31), 6);
        s.entry(0, 5, 5);
        s.map(0, 1);
        checks.same("the first, though it changes nothing", s.value(24, 1, 31, 31), 5);
    }

    private static void mapToTheSame() {
        SurveyStore s = Stores.painted();
        s.entry(0, 5, 5);
        s.entry(1, NONE, NONE);
        s.map(0, 0);
        checks.same("its origin", s.origin(24, 0, 0, 0, 0), 1);
        checks.same("no change", s.about(24, 2), 0);
        s.entry(0, 5, 4);
        s.map(0, 0);
        checks.same("the origin of another value", s.origin(24, 0, 0, 0, 0), 24);
    }

    private static void mapNoBranch() {
        SurveyStore s = Stores.painted();
        s.entry(0, 5, 6);
        refusesBranches(b -> s.map(b, 0), s);
    }

    private static void mapNoLayer() {
        SurveyStore s = Stores.painted();
        s.entry(0, 5, 6);
        refusesAll(s, Stores.NO_LAYERS, layer -> s.map(0, layer));
    }

    private static void combineInTheRegion() {
        SurveyStore s = Stores.painted();
        s.paint(0, 1, 2);
        s.region(9, 20, 5, 3);
        s.combine(0, 0, 1, 0);
        changedInTheRegion(s);
    }

    private static void combineWithNone() {
        SurveyStore s = Stores.painted();
        Stores.paintAll(s, 0, 1, NONE);
        Stores.paintOne(s, 0, 0, 3, 3, NONE);
        s.commit(0);
        s.region(0, 0, 32, 32);
        for (int way = 0; way < 3; way++) {
            s.combine(0, 0, 1, way);
            checks.same("nothing gets anything, way " + way, s.about(24, 2), 0);
        }
    }

    private static void combineOfNone() {
        for (int way = 0; way < 3; way++) {
            for (int v : new int[] {-MOST, 0, MOST}) {
                SurveyStore s = new SurveyStore();
                Stores.commitOne(s, 0, 1, 31, 30, v);
                s.combine(0, 2, 1, way);
                checks.same("the second's, way " + way, s.value(24, 2, 31, 30), v);
                int[] due = {24, 2, 31, 30};
                for (int what = 0; what < 4; what++) {
                    checks.same("its origin, what " + what, s.origin(24, 2, 31, 30, what), due[what]);
                }
                checks.same("the second stays", s.origin(24, 1, 31, 30, 0), 1);
            }
        }
    }

    private static int combined(int one, int two, int way) {
        SurveyStore s = new SurveyStore();
        Stores.paintOne(s, 0, 0, 0, 0, one);
        Stores.paintOne(s, 0, 1, 0, 0, two);
        s.combine(0, 0, 1, way);
        checks.same("the second layer stays", s.value(24, 1, 0, 0), two);
        return s.value(24, 0, 0, 0);
    }

    private static void combineSum() {
        checks.same("just not above", combined(600000, 399999, 0), 999999);
        checks.same("just the greatest", combined(600000, 400000, 0), MOST);
        checks.same("one more", combined(600000, 400001, 0), MOST);
        checks.same("the most", combined(MOST, MOST, 0), MOST);
        checks.same("just not below", combined(-600000, -399999, 0), -999999);
        checks.same("just the least", combined(-600000, -400000, 0), -MOST);
        checks.same("one less", combined(-600000, -400001, 0), -MOST);
        checks.same("the least of all", combined(-MOST, -MOST, 0), -MOST);
        checks.same("both", combined(MOST, -MOST, 0), 0);
    }

    private static void combineGreater() {
        checks.same("the second", combined(-MOST, -MOST + 1, 1), -MOST + 1);
        checks.same("the first", combined(MOST, MOST - 1, 1), MOST);
        checks.same("far apart", combined(-MOST, MOST, 1), MOST);
        checks.same("the same", combined(3, 3, 1), 3);
    }

    private static void combineLesser() {
        checks.same("the second", combined(MOST, MOST - 1, 2), MOST - 1);
        checks.same("the first", combined(-MOST, -MOST + 1, 2), -MOST);
        checks.same("far apart", combined(MOST, -MOST, 2), -MOST);
        checks.same("the same", combined(3, 3, 2), 3);
    }

    private static void keepsItsOrigin(int one, int two, int way) {
        SurveyStore s = new SurveyStore();
        Stores.paintOne(s, 0, 0, 0, 0, one);
        Stores.commitOne(s, 0, 1, 0, 0, two);
        s.combine(0, 0, 1, way);
        checks.same("origin of " + one + " with " + two + ", way " + way, s.origin(24, 0, 0, 0, 0), 1);
        checks.same("no change", s.about(24, 2), 0);
    }

    private static void combineToTheSame() {
        keepsItsOrigin(7, 0, 0);
        keepsItsOrigin(MOST, 1, 0);
        keepsItsOrigin(MOST, MOST, 0);
        keepsItsOrigin(-MOST, -1, 0);
        keepsItsOrigin(7, 6, 1);
        keepsItsOrigin(7, 7, 1);
        keepsItsOrigin(7, 8, 2);
        keepsItsOrigin(7, 7, 2);
        SurveyStore s = new SurveyStore();
        Stores.paintOne(s, 0, 0, 0, 0, 7);
        Stores.commitOne(s, 0, 1, 0, 0, 1);
        s.combine(0, 0, 1, 0);
        checks.same("the origin of another value", s.origin(24, 0, 0, 0, 0), 24);
    }

    private static void combineWithItself() {
        SurveyStore s = new SurveyStore();
        int[] values = {600000, -600000, 500000, 3, 0, NONE};
        int[] twice = {MOST, -MOST, MOST, 6, 0, NONE};
        for (int i = 0; i < values.length; i++) {
            Stores.paintOne(s, 0, 2, i, 0, values[i]);
        }
        s.commit(0);
        s.region(0, 0, 32, 32);
        s.combine(0, 2, 2, 1);
        s.combine(0, 2, 2, 2);
        checks.same("the greater and the lesser of itself", s.about(24, 2), 0);
        s.combine(0, 2, 2, 0);
        for (int i = 0; i < values.length; i++) {
            checks.same("twice " + values[i], s.value(24, 2, i, 0), twice[i]);
        }
    }

    private static void combineNoSecond() {
        SurveyStore s = Stores.painted();
        refusesAll(s, Stores.NO_LAYERS, second -> s.combine(0, 0, second, 0));
    }

    private static void combineNoWay() {
        SurveyStore s = Stores.painted();
        refusesAll(s, new int[] {-1, 3, 4, MIN, MAX}, way -> s.combine(0, 0, 1, way));
    }

    private static void combineNoBranch() {
        SurveyStore s = Stores.painted();
        refusesBranches(b -> s.combine(b, 0, 1, 0), s);
    }

    private static void combineNoLayer() {
        SurveyStore s = Stores.painted();
        refusesAll(s, Stores.NO_LAYERS, layer -> s.combine(0, layer, 1, 0));
    }
}
