/** Promises 5 to 12: the region, the polygon, the table, and the edits of a branch's layer. */
final class EditTest {
    private static final int NONE = SurveyStore.NONE;
    private static final int MIN = Integer.MIN_VALUE;
    private static final int MAX = Integer.MAX_VALUE;
    private static final Checks checks = new Checks("EditTest");

    private interface Edit {
        void run(int b, int layer);
    }

    public static void main(String[] args) {
        regionEdges();
        regionIsTheLastGood();
        painting();
        paintingNone();
        paintRefuses();
        cornerEdges();
        polygonCells();
        polygonIgnoresTheRegion();
        polygonOnSides();
        polygonAwayFromTheEdges();
        polygonOfCrossedSides();
        polygonOfUnsetCorners();
        polygonRefuses();
        copying();
        copyBringsOriginsAndNone();
        copyRefuses();
        entryEdges();
        mapping();
        mapTakesTheFirst();
        mapOfNone();
        combiningSums();
        combiningGreaterAndLesser();
        combiningWithoutValues();
        combiningWithItself();
        combineRefuses();
        editsKeepToTheRegion();
        editsKeepToTheirPlace();
        checks.end();
    }

    private static void paintOne(SurveyStore s, int layer, int x, int y, int v) {
        s.region(x, y, 1, 1);
        s.paint(0, layer, v);
    }

    private static void refusesPlaces(String name, SurveyStore s, Edit edit) {
        int[][] wrong = {{-1, 0}, {1, 0}, {4, 0}, {24, 0}, {MIN, 0}, {MAX, 0}, {0, -1}, {0, 4}, {0, MIN}, {0, MAX}};
        for (int[] w : wrong) {
            checks.illegalArgument(name + " of branch " + w[0] + ", layer " + w[1], () -> edit.run(w[0], w[1]));
        }
        checks.same(name + " refused: nothing changed", s.about(24, 2), 0);
    }

    private static void regionEdges() {
        SurveyStore s = new SurveyStore();
        checks.yes("region: all", s.region(0, 0, 32, 32));
        checks.yes("region: the last cell", s.region(31, 31, 1, 1));
        checks.yes("region: a row", s.region(0, 31, 32, 1));
        int[][] wrong = {
            {0, 0, 0, 1}, {0, 0, 1, 0}, {0, 0, -1, 1}, {0, 0, 1, -1}, {-1, 0, 1, 1}, {0, -1, 1, 1},
            {32, 0, 1, 1}, {0, 32, 1, 1}, {1, 0, 32, 1}, {0, 1, 1, 32}, {0, 0, 33, 1}, {0, 0, 1, 33},
            {MAX, 0, MAX, 1}, {0, MAX, 1, MAX}, {1, 0, MAX, 1}, {MIN, 0, MIN, 1}, {MIN, 0, 1, 1},
            {0, 0, MIN, 1}, {0, 1, 1, MAX}, {-1, 0, 33, 1}, {-5, 0, 20, 20}};
        for (int[] w : wrong) {
            checks.no("region " + w[0] + " " + w[1] + " " + w[2] + " " + w[3], s.region(w[0], w[1], w[2], w[3]));
        }
    }

    private static void regionIsTheLastGood() {
        SurveyStore s = new SurveyStore();
        s.region(3, 5, 4, 2);
        s.region(0, 0, 33, 33);
        s.paint(0, 0, 1);
        s.region(0, 0, 32, 32);
        checks.same("region: how many cells", s.total(24, 0, 1), 8);
        checks.same("region: upper left", s.value(24, 0, 3, 5), 1);
        checks.same("region: lower right", s.value(24, 0, 6, 6), 1);
        checks.same("region: right of it", s.value(24, 0, 7, 6), NONE);
        checks.same("region: below it", s.value(24, 0, 6, 7), NONE);
        checks.same("region: left of it", s.value(24, 0, 2, 5), NONE);
        checks.same("region: above it", s.value(24, 0, 3, 4), NONE);
    }

    private static void painting() {
        SurveyStore s = new SurveyStore();
        s.region(30, 29, 2, 3);
        s.paint(0, 3, -1000000);
        checks.same("paint: value", s.value(24, 3, 31, 31), -1000000);
        checks.same("paint: origin's commit", s.origin(24, 3, 31, 30, 0), 24);
        checks.same("paint: origin's layer", s.origin(24, 3, 31, 30, 1), 3);
        checks.same("paint: origin's x", s.origin(24, 3, 31, 30, 2), 31);
        checks.same("paint: origin's y", s.origin(24, 3, 31, 30, 3), 30);
        checks.same("paint: the other layers", s.value(24, 2, 31, 31), NONE);
        s.commit(0);
        s.paint(0, 3, -1000000);
        checks.same("paint: pending also if the value is the same", s.origin(24, 3, 31, 30, 0), 24);
        s.paint(0, 3, 0);
        checks.same("paint: zero is a value", s.total(24, 3, 1), 6);
        checks.same("paint: zero has an origin", s.origin(24, 3, 30, 29, 0), 24);
    }

    private static void paintingNone() {
        SurveyStore s = new SurveyStore();
        s.paint(0, 1, 1000000);
        s.commit(0);
        s.region(0, 0, 2, 2);
        s.paint(0, 1, NONE);
        checks.same("paint NONE: value", s.value(24, 1, 1, 1), NONE);
        checks.same("paint NONE: origin", s.origin(24, 1, 1, 1, 0), NONE);
        checks.same("paint NONE: changed", s.about(24, 2), 1);
        checks.same("paint NONE: outside", s.value(24, 1, 2, 2), 1000000);
        s.paint(0, 0, NONE);
        s.commit(0);
        s.paint(0, 1, NONE);
        checks.same("paint NONE over NONE: not changed", s.about(24, 2), 0);
    }

    private static void paintRefuses() {
        SurveyStore s = new SurveyStore();
        refusesPlaces("paint", s, (b, layer) -> s.paint(b, layer, 1));
        for (int v : new int[] {1000001, -1000001, MAX, MIN + 1}) {
            checks.illegalArgument("paint value " + v, () -> s.paint(0, 0, v));
        }
        checks.same("paint refused: nothing changed", s.about(24, 2), 0);
    }

    private static void cornerEdges() {
        SurveyStore s = new SurveyStore();
        checks.yes("corner: the first", s.corner(0, 0, 0));
        checks.yes("corner: the last", s.corner(5, 32, 32));
        int[][] wrong = {
            {-1, 0, 0}, {6, 0, 0}, {0, -1, 0}, {0, 0, -1}, {0, 33, 0}, {0, 0, 33}, {MAX, 0, 0}, {MIN, 0, 0},
            {0, MAX, 0}, {0, 0, MAX}, {0, MIN, 0}, {0, 0, MIN}};
        for (int[] w : wrong) {
            checks.no("corner " + w[0] + " " + w[1] + " " + w[2], s.corner(w[0], w[1], w[2]));
        }
    }

    private static void corners(SurveyStore s, int... points) {
        for (int i = 0; i < points.length / 2; i++) {
            checks.yes("corner", s.corner(i, points[2 * i], points[2 * i + 1]));
        }
    }

    private static void polygonCells() {
        SurveyStore s = new SurveyStore();
        corners(s, 2, 3, 6, 3, 6, 5, 2, 5);
        s.polygon(0, 1, 4, 7);
        checks.same("polygon: a rectangle's cells", s.total(24, 1, 1), 8);
        checks.same("polygon: upper left", s.value(24, 1, 2, 3), 7);
        checks.same("polygon: lower right", s.value(24, 1, 5, 4), 7);
        checks.same("polygon: right of it", s.value(24, 1, 6, 4), NONE);
        checks.same("polygon: left of it", s.value(24, 1, 1, 3), NONE);
        checks.same("polygon: above it", s.value(24, 1, 2, 2), NONE);
        checks.same("polygon: below it", s.value(24, 1, 2, 5), NONE);
        checks.same("polygon: origin", s.origin(24, 1, 5, 4, 0), 24);
        checks.same("polygon: origin's x", s.origin(24, 1, 5, 4, 2), 5);
        s.polygon(0, 1, 4, NONE);
        checks.same("polygon NONE: nothing left", s.total(24, 1, 1), 0);
        checks.same("polygon NONE: not changed", s.about(24, 2), 0);
        corners(s, 0, 0, 32, 0, 32, 32, 0, 32);
        s.polygon(0, 0, 4, 1);
        checks.same("polygon: all cells", s.total(24, 0, 1), 1024);
        s.commit(0);
        s.polygon(0, 0, 4, 1);
        checks.same("polygon: pending also if the value is the same", s.origin(24, 0, 9, 9, 0), 24);
    }

    private static void polygonIgnoresTheRegion() {
        SurveyStore s = new SurveyStore();
        corners(s, 2, 3, 6, 3, 6, 5, 2, 5);
        s.region(20, 20, 1, 1);
        s.polygon(0, 1, 4, 7);
        s.region(0, 0, 32, 32);
        checks.same("polygon: the region is nothing to it", s.total(24, 1, 1), 8);
    }

    private static void polygonOnSides() {
        SurveyStore s = new SurveyStore();
        corners(s, 0, 0, 4, 4, 0, 4);
        s.polygon(0, 0, 3, 1);
        checks.same("polygon: a side right through the middle is not right of it", s.value(24, 0, 1, 1), NONE);
        checks.same("polygon: left of the side", s.value(24, 0, 0, 1), 1);
        checks.same("polygon: cells below the diagonal", s.total(24, 0, 1), 6);
        corners(s, 0, 0, 4, 0, 4, 4);
        s.polygon(0, 1, 3, 1);
        checks.same("polygon: a left side through the middle holds it", s.value(24, 1, 1, 1), 1);
        checks.same("polygon: cells on and above the diagonal", s.total(24, 1, 1), 10);
    }

    private static void polygonAwayFromTheEdges() {
        SurveyStore s = new SurveyStore();
        corners(s, 10, 20, 16, 23, 10, 26);
        s.polygon(0, 0, 3, 1);
        int[] cellsOfRow = {1, 3, 5, 5, 3, 1};
        for (int row = 0; row < 6; row++) {
            s.region(0, 20 + row, 32, 1);
            checks.same("polygon: cells of row " + row, s.total(24, 0, 1), cellsOfRow[row]);
            checks.same("polygon: the first cell of row " + row, s.value(24, 0, 10, 20 + row), 1);
        }
        s.region(0, 0, 32, 32);
        checks.same("polygon: no cells elsewhere", s.total(24, 0, 1), 18);
    }

    private static void polygonOfCrossedSides() {
        SurveyStore s = new SurveyStore();
        corners(s, 0, 0, 8, 8, 8, 0, 0, 8);
        s.polygon(0, 0, 4, 1);
        checks.same("polygon: left part", s.value(24, 0, 0, 4), 1);
        checks.same("polygon: right part", s.value(24, 0, 7, 4), 1);
        checks.same("polygon: upper gap", s.value(24, 0, 4, 0), NONE);
        checks.same("polygon: lower gap", s.value(24, 0, 4, 7), NONE);
        corners(s, 0, 0, 8, 0, 8, 8, 0, 0, 8, 0, 8, 8);
        s.polygon(0, 1, 6, 1);
        checks.same("polygon: an even number of sides is outside", s.total(24, 1, 1), 0);
    }

    private static void polygonOfUnsetCorners() {
        SurveyStore s = new SurveyStore();
        s.corner(0, 4, 0);
        s.corner(1, 4, 4);
        s.polygon(0, 0, 3, 1);
        checks.same("polygon: the third corner at 0, 0", s.total(24, 0, 1), 10);
        s.corner(2, 0, 4);
        s.polygon(0, 1, 4, 1);
        checks.same("polygon: the fourth corner at 0, 0", s.total(24, 1, 1), 16);
        s.polygon(0, 2, 3, 1);
        checks.same("polygon: only the first n", s.total(24, 2, 1), 10);
        checks.same("polygon: the fourth corner left out", s.value(24, 2, 0, 0), NONE);
    }

    private static void polygonRefuses() {
        SurveyStore s = new SurveyStore();
        corners(s, 0, 0, 9, 0, 9, 9, 0, 9, 0, 5, 0, 3);
        refusesPlaces("polygon", s, (b, layer) -> s.polygon(b, layer, 4, 1));
        for (int n : new int[] {2, 7, 0, -1, MIN, MAX}) {
            checks.illegalArgument("polygon of " + n, () -> s.polygon(0, 0, n, 1));
        }
        for (int v : new int[] {1000001, -1000001, MAX, MIN + 1}) {
            checks.illegalArgument("polygon value " + v, () -> s.polygon(0, 0, 4, v));
        }
        checks.same("polygon refused: nothing changed", s.about(24, 2), 0);
    }

    private static void copying() {
        SurveyStore s = new SurveyStore();
        paintOne(s, 0, 2, 3, 5);
        paintOne(s, 0, 3, 4, 6);
        s.commit(0);
        s.region(2, 3, 2, 2);
        s.copy(0, 1, 1, 0, 30, 30);
        checks.same("copy: upper left", s.value(24, 1, 30, 30), 5);
        checks.same("copy: lower right", s.value(24, 1, 31, 31), 6);
        checks.same("copy: between", s.value(24, 1, 31, 30), NONE);
        checks.same("copy: origin's commit", s.origin(24, 1, 31, 31, 0), 1);
        checks.same("copy: origin's layer", s.origin(24, 1, 31, 31, 1), 0);
        checks.same("copy: origin's x", s.origin(24, 1, 31, 31, 2), 3);
        checks.same("copy: origin's y", s.origin(24, 1, 31, 31, 3), 4);
        s.commit(0);
        checks.same("copy: origin's commit stays", s.origin(2, 1, 31, 31, 0), 1);
        s.copy(0, 0, 1, 0, 3, 4);
        checks.same("copy: its own layer, over itself", s.value(24, 0, 3, 4), 5);
        checks.same("copy: its own layer, beside itself", s.value(24, 0, 4, 5), 6);
        checks.same("copy: origin of a copy of a copy", s.origin(24, 0, 4, 5, 2), 3);
        s.copy(0, 0, 1, 0, 2, 3);
        s.copy(0, 0, 0, 0, 4, 5);
        checks.same("copy: from where it was, not changed", s.value(24, 0, 3, 4), 6);
        checks.same("copy: NONE from commit 0", s.value(24, 0, 4, 5), NONE);
        checks.same("copy: as the head again", s.about(24, 2), 0);
    }

    private static void copyBringsOriginsAndNone() {
        SurveyStore s = new SurveyStore();
        paintOne(s, 0, 1, 1, 5);
        s.commit(0);
        paintOne(s, 0, 1, 1, 6);
        s.commit(0);
        paintOne(s, 0, 1, 1, 5);
        s.commit(0);
        s.copy(0, 0, 1, 0, 1, 1);
        checks.same("copy: the same value", s.value(24, 0, 1, 1), 5);
        checks.same("copy: an older origin", s.origin(24, 0, 1, 1, 0), 1);
        checks.same("copy: changed by the origin", s.about(24, 2), 1);
        s.copy(0, 0, 3, 0, 1, 1);
        checks.same("copy: changed back", s.about(24, 2), 0);
        s.copy(0, 0, 0, 3, 1, 1);
        checks.same("copy: NONE", s.value(24, 0, 1, 1), NONE);
        checks.same("copy: NONE has no origin", s.origin(24, 0, 1, 1, 0), NONE);
    }

    private static void copyRefuses() {
        SurveyStore s = new SurveyStore();
        s.paint(0, 0, 3);
        s.commit(0);
        s.region(5, 6, 4, 8);
        refusesPlaces("copy", s, (b, layer) -> s.copy(b, layer, 1, 0, 0, 0));
        int[][] wrong = {
            {-1, 0, 0, 0}, {2, 0, 0, 0}, {24, 0, 0, 0}, {MIN, 0, 0, 0}, {MAX, 0, 0, 0},
            {1, -1, 0, 0}, {1, 4, 0, 0}, {1, MAX, 0, 0}, {1, 0, -1, 0}, {1, 0, 0, -1},
            {1, 0, 29, 0}, {1, 0, 0, 25}, {1, 0, MAX, 0}, {1, 0, 0, MAX}, {1, 0, MIN, 0}, {1, 0, 0, MIN}};
        for (int[] w : wrong) {
            String what = "copy of " + w[0] + ", " + w[1] + " to " + w[2] + ", " + w[3];
            checks.illegalArgument(what, () -> s.copy(0, 1, w[0], w[1], w[2], w[3]));
        }
        checks.same("copy refused: nothing changed", s.about(24, 2), 0);
        s.copy(0, 1, 1, 0, 28, 24);
        s.region(0, 0, 32, 32);
        checks.same("copy: into the last corner", s.total(24, 1, 1), 32);
    }

    private static void entryEdges() {
        SurveyStore s = new SurveyStore();
        checks.yes("entry: the first", s.entry(0, 1000000, -1000000));
        checks.yes("entry: the last", s.entry(7, NONE, NONE));
        int[][] wrong = {
            {-1, 0, 0}, {8, 0, 0}, {0, 1000001, 0}, {0, 0, 1000001}, {0, -1000001, 0}, {0, 0, -1000001},
            {MIN, 0, 0}, {MAX, 0, 0}, {0, MAX, 0}, {0, 0, MAX}, {0, MIN + 1, 0}, {0, 0, MIN + 1}};
        for (int[] w : wrong) {
            checks.no("entry " + w[0] + " " + w[1] + " " + w[2], s.entry(w[0], w[1], w[2]));
        }
        paintOne(s, 0, 0, 0, 1000000);
        s.map(0, 0);
        checks.same("entry: refused ones leave it", s.value(24, 0, 0, 0), -1000000);
    }

    private static void mapping() {
        SurveyStore s = new SurveyStore();
        s.paint(0, 0, 1);
        s.region(0, 0, 4, 4);
        s.paint(0, 0, 2);
        s.commit(0);
        s.entry(2, 1, 10);
        s.entry(5, 2, NONE);
        s.entry(6, 10, 11);
        s.region(3, 3, 2, 2);
        s.map(0, 0);
        checks.same("map: 1 to 10, and not on to 11", s.value(24, 0, 4, 4), 10);
        checks.same("map: its origin", s.origin(24, 0, 4, 4, 0), 24);
        checks.same("map: its origin's cell", s.origin(24, 0, 4, 4, 3), 4);
        checks.same("map: 2 to NONE", s.value(24, 0, 3, 3), NONE);
        checks.same("map: NONE has no origin", s.origin(24, 0, 3, 3, 0), NONE);
        checks.same("map: outside the region", s.value(24, 0, 2, 3), 2);
        checks.same("map: outside the region, its origin", s.origin(24, 0, 5, 5, 0), 1);
        s.map(0, 1);
        checks.same("map: another layer", s.total(24, 1, 1), 0);
        SurveyStore t = new SurveyStore();
        t.entry(0, NONE, 1);
        refusesPlaces("map", t, (b, layer) -> t.map(b, layer));
    }

    private static void mapTakesTheFirst() {
        SurveyStore s = new SurveyStore();
        paintOne(s, 0, 0, 0, 1);
        s.commit(0);
        s.entry(3, 1, 30);
        s.entry(1, 1, 20);
        s.map(0, 0);
        checks.same("map: the first entry, not the first that was set", s.value(24, 0, 0, 0), 20);
        s.entry(0, 20, 20);
        s.entry(1, 20, 21);
        s.commit(0);
        s.map(0, 0);
        checks.same("map: the first entry, though it changes nothing", s.value(24, 0, 0, 0), 20);
        checks.same("map: the same value keeps its origin", s.origin(24, 0, 0, 0, 0), 2);
        checks.same("map: not changed", s.about(24, 2), 0);
    }

    private static void mapOfNone() {
        SurveyStore s = new SurveyStore();
        s.region(0, 0, 2, 2);
        s.entry(1, NONE, 5);
        s.map(0, 0);
        checks.same("map: the unset entry 0 makes NONE of NONE", s.total(24, 0, 1), 0);
        s.entry(0, 7, 8);
        s.map(0, 0);
        checks.same("map: NONE to 5", s.value(24, 0, 1, 1), 5);
        checks.same("map: NONE to 5, its origin", s.origin(24, 0, 1, 1, 2), 1);
        checks.same("map: NONE outside the region", s.value(24, 0, 2, 1), NONE);
    }

    private static void combiningSums() {
        SurveyStore s = new SurveyStore();
        s.region(0, 0, 8, 8);
        s.paint(0, 0, 600000);
        s.paint(0, 1, 500000);
        s.region(0, 0, 1, 8);
        s.paint(0, 0, -600000);
        s.paint(0, 1, -400001);
        s.region(1, 0, 1, 8);
        s.paint(0, 0, 5);
        s.paint(0, 1, -7);
        s.region(2, 0, 1, 8);
        s.paint(0, 1, 0);
        s.commit(0);
        s.region(0, 0, 8, 4);
        s.combine(0, 0, 1, 0);
        checks.same("combine: brought down to 1000000", s.value(24, 0, 3, 3), 1000000);
        checks.same("combine: brought up to -1000000", s.value(24, 0, 0, 3), -1000000);
        checks.same("combine: the sum", s.value(24, 0, 1, 0), -2);
        checks.same("combine: its origin", s.origin(24, 0, 1, 2, 0), 24);
        checks.same("combine: its origin's layer", s.origin(24, 0, 1, 2, 1), 0);
        checks.same("combine: its origin's y", s.origin(24, 0, 1, 2, 3), 2);
        checks.same("combine: 0 more is no other value", s.origin(24, 0, 2, 2, 0), 1);
        checks.same("combine: outside the region", s.value(24, 0, 1, 4), 5);
        checks.same("combine: the second layer stays", s.value(24, 1, 1, 0), -7);
        checks.same("combine: the second layer's origin stays", s.origin(24, 1, 1, 0, 0), 1);
    }

    private static void combiningGreaterAndLesser() {
        SurveyStore s = new SurveyStore();
        s.region(0, 0, 1, 3);
        s.paint(0, 0, 5);
        s.paint(0, 1, 5);
        paintOne(s, 1, 0, 0, 6);
        paintOne(s, 1, 0, 1, 4);
        s.commit(0);
        s.region(0, 0, 1, 3);
        s.combine(0, 0, 1, 1);
        checks.same("greater: of 5 and 6", s.value(24, 0, 0, 0), 6);
        checks.same("greater: its origin", s.origin(24, 0, 0, 0, 1), 0);
        checks.same("greater: of 5 and 4", s.value(24, 0, 0, 1), 5);
        checks.same("greater: of 5 and 4, its origin", s.origin(24, 0, 0, 1, 0), 1);
        checks.same("greater: of 5 and 5, its origin", s.origin(24, 0, 0, 2, 0), 1);
        s.combine(0, 0, 1, 2);
        checks.same("lesser: of 6 and 6, pending from before", s.value(24, 0, 0, 0), 6);
        checks.same("lesser: of 5 and 4", s.value(24, 0, 0, 1), 4);
        checks.same("lesser: its origin", s.origin(24, 0, 0, 1, 0), 24);
        checks.same("lesser: of 5 and 5, its origin", s.origin(24, 0, 0, 2, 0), 1);
    }

    private static void combiningWithoutValues() {
        SurveyStore s = new SurveyStore();
        s.region(0, 0, 2, 1);
        s.paint(0, 0, 5);
        s.region(1, 0, 2, 1);
        s.paint(0, 1, -6);
        s.commit(0);
        for (int way = 0; way < 3; way++) {
            s.region(0, 0, 4, 1);
            s.combine(0, 0, 1, way);
            checks.same("combine: the second has none", s.value(24, 0, 0, 0), 5);
            checks.same("combine: the second has none, origin", s.origin(24, 0, 0, 0, 0), 1);
            checks.same("combine: the first has none", s.value(24, 0, 2, 0), -6);
            checks.same("combine: the first has none, origin", s.origin(24, 0, 2, 0, 0), 24);
            checks.same("combine: the first has none, origin's layer", s.origin(24, 0, 2, 0, 1), 0);
            checks.same("combine: none has one", s.value(24, 0, 3, 0), NONE);
            s.copy(0, 0, 1, 0, 0, 0);
        }
    }

    private static void combiningWithItself() {
        SurveyStore s = new SurveyStore();
        paintOne(s, 2, 0, 0, 600000);
        paintOne(s, 2, 1, 0, -3);
        s.commit(0);
        s.region(0, 0, 32, 32);
        s.combine(0, 2, 2, 1);
        s.combine(0, 2, 2, 2);
        checks.same("combine: the greater and lesser of itself", s.about(24, 2), 0);
        s.combine(0, 2, 2, 0);
        checks.same("combine: twice itself", s.value(24, 2, 1, 0), -6);
        checks.same("combine: twice itself, brought down", s.value(24, 2, 0, 0), 1000000);
    }

    private static void combineRefuses() {
        SurveyStore s = new SurveyStore();
        s.paint(0, 1, 3);
        s.commit(0);
        refusesPlaces("combine", s, (b, layer) -> s.combine(b, layer, 1, 0));
        int[][] wrong = {{-1, 0}, {4, 0}, {MIN, 0}, {MAX, 0}, {1, -1}, {1, 3}, {1, MIN}, {1, MAX}};
        for (int[] w : wrong) {
            checks.illegalArgument("combine with " + w[0] + ", way " + w[1], () -> s.combine(0, 0, w[0], w[1]));
        }
        checks.same("combine refused: nothing changed", s.about(24, 2), 0);
    }

    /** A region with four different numbers, and every cell of the layer looked at. */
    private static void editsKeepToTheRegion() {
        for (int edit = 0; edit < 4; edit++) {
            SurveyStore s = new SurveyStore();
            s.paint(0, 0, 3);
            s.paint(0, 1, 4);
            s.commit(0);
            s.entry(0, 3, 7);
            s.region(9, 20, 5, 3);
            switch (edit) {
                case 0:
                    s.paint(0, 0, 7);
                    break;
                case 1:
                    s.map(0, 0);
                    break;
                case 2:
                    s.combine(0, 0, 1, 0);
                    break;
                default:
                    s.copy(0, 0, 1, 1, 9, 20);
            }
            int due = edit < 3 ? 7 : 4;
            checks.same("edit " + edit + ": cells", s.differing(24, 1, 0), 15);
            for (int k = 0; k < 15; k++) {
                int at = s.differs(24, 1, 0, k);
                checks.same("edit " + edit + ": cell " + k, at, 32 * (20 + k / 5) + 9 + k % 5);
                checks.same("edit " + edit + ": value", s.value(24, 0, at % 32, at / 32), due);
            }
            checks.same("edit " + edit + ": the total of the region", s.total(24, 0, 0), 15 * due);
            checks.same("edit " + edit + ": how many in the region", s.total(24, 0, 1), 15);
        }
    }

    private static void editsKeepToTheirPlace() {
        SurveyStore s = new SurveyStore();
        s.paint(0, 0, 1);
        s.commit(0);
        s.branch(1, 1);
        s.entry(0, 1, 2);
        s.map(1, 0);
        s.combine(1, 1, 0, 0);
        corners(s, 0, 0, 32, 0, 32, 32);
        s.polygon(1, 2, 3, 4);
        s.copy(1, 3, 1, 0, 0, 0);
        checks.same("edits: of branch 1", s.about(25, 2), 1);
        checks.same("edits: not of branch 0", s.about(24, 2), 0);
        checks.same("edits: not of the commit", s.total(1, 0, 0), 1024);
        checks.same("edits: not of the commit's other layers", s.total(1, 1, 1), 0);
    }
}
