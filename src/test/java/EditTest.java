/** Promises 5 to 12: the region, the polygon, the table, and the edits of a branch's layer. */
final class EditTest {
    private static final int NONE = SurveyStore.NONE;
    private static final Checks checks = new Checks("EditTest");

    public static void main(String[] args) {
        painting();
        polygonCells();
        polygonOfCrossedSides();
        copying();
        copyBringsOriginsAndNone();
        mapping();
        mapTakesTheFirst();
        combiningSums();
        combiningGreaterAndLesser();
        editsKeepToTheRegion();
        editsKeepToTheirPlace();
        checks.end();
    }

    private static void painting() {
        SurveyStore s = new SurveyStore();
        s.region(30, 29, 2, 3);
        s.paint(0, 3, -1000000);
        checks.same("paint: value", s.value(24, 3, 31, 31), -1000000);
        checks.same("paint: origin's commit", s.origin(24, 3, 31, 30, 0), 24);
        checks.same("paint: origin's layer", s.origin(24, 3, 31, 30, 1), 3);
        checks.same("paint: origin's x", s.origin(24, 3, 31, 30, 2), 31);
        checks.same("paint: origin's y", s.origin(24, 3, 31, 30, 3), 30);
        checks.same("paint: the other layers", s.value(24, 2, 31, 31), NONE);
        s.commit(0);
        s.paint(0, 3, -1000000);
        checks.same("paint: pending also if the value is the same", s.origin(24, 3, 31, 30, 0), 24);
        s.paint(0, 3, 0);
        checks.same("paint: zero is a value", s.total(24, 3, 1), 6);
        checks.same("paint: zero has an origin", s.origin(24, 3, 30, 29, 0), 24);
    }

    private static void polygonCells() {
        SurveyStore s = new SurveyStore();
        Stores.corners(s, 2, 3, 6, 3, 6, 5, 2, 5);
        s.polygon(0, 1, 4, 7);
        checks.same("polygon: a rectangle's cells", s.total(24, 1, 1), 8);
        checks.same("polygon: upper left", s.value(24, 1, 2, 3), 7);
        checks.same("polygon: lower right", s.value(24, 1, 5, 4), 7);
        checks.same("polygon: right of it", s.value(24, 1, 6, 4), NONE);
        checks.same("polygon: left of it", s.value(24, 1, 1, 3), NONE);
        checks.same("polygon: above it", s.value(24, 1, 2, 2), NONE);
        checks.same("polygon: below it", s.value(24, 1, 2, 5), NONE);
        checks.same("polygon: origin", s.origin(24, 1, 5, 4, 0), 24);
        checks.same("polygon: origin's x", s.origin(24, 1, 5, 4, 2), 5);
        s.polygon(0, 1, 4, NONE);
        checks.same("polygon NONE: nothing left", s.total(24, 1, 1), 0);
        checks.same("polygon NONE: not changed", s.about(24, 2), 0);
        Stores.corners(s, 0, 0, 32, 0, 32, 32, 0, 32);
        s.polygon(0, 0, 4, 1);
        checks.same("polygon: all cells", s.total(24, 0, 1), 1024);
        s.commit(0);
        s.polygon(0, 0, 4, 1);
        checks.same("polygon: pending also if the value is the same", s.origin(24, 0, 9, 9, 0), 24);
    }

    private static void polygonOfCrossedSides() {
        SurveyStore s = new SurveyStore();
        Stores.corners(s, 0, 0, 8, 8, 8, 0, 0, 8);
        s.polygon(0, 0, 4, 1);
        checks.same("polygon: left part", s.value(24, 0, 0, 4), 1);
        checks.same("polygon: right part", s.value(24, 0, 7, 4), 1);
        checks.same("polygon: upper gap", s.value(24, 0, 4, 0), NONE);
        checks.same("polygon: lower gap", s.value(24, 0, 4, 7), NONE);
        Stores.corners(s, 0, 0, 8, 0, 8, 8, 0, 0, 8, 0, 8, 8);
        s.polygon(0, 1, 6, 1);
        checks.same("polygon: an even number of sides is outside", s.total(24, 1, 1), 0);
    }

    private static void copying() {
        SurveyStore s = new SurveyStore();
        Stores.paintOne(s, 0, 0, 2, 3, 5);
        Stores.paintOne(s, 0, 0, 3, 4, 6);
        s.commit(0);
        s.region(2, 3, 2, 2);
        s.copy(0, 1, 1, 0, 30, 30);
        checks.same("copy: upper left", s.value(24, 1, 30, 30), 5);
        checks.same("copy: lower right", s.value(24, 1, 31, 31), 6);
        checks.same("copy: between", s.value(24, 1, 31, 30), NONE);
        checks.same("copy: origin's commit", s.origin(24, 1, 31, 31, 0), 1);
        checks.same("copy: origin's layer", s.origin(24, 1, 31, 31, 1), 0);
        checks.same("copy: origin's x", s.origin(24, 1, 31, 31, 2), 3);
        checks.same("copy: origin's y", s.origin(24, 1, 31, 31, 3), 4);
        s.commit(0);
        checks.same("copy: origin's commit stays", s.origin(2, 1, 31, 31, 0), 1);
        s.copy(0, 0, 1, 0, 3, 4);
        checks.same("copy: its own layer, over itself", s.value(24, 0, 3, 4), 5);
        checks.same("copy: its own layer, beside itself", s.value(24, 0, 4, 5), 6);
        checks.same("copy: origin of a copy of a copy", s.origin(24, 0, 4, 5, 2), 3);
        s.copy(0, 0, 1, 0, 2, 3);
        s.copy(0, 0, 0, 0, 4, 5);
        checks.same("copy: from where it was, not changed", s.value(24, 0, 3, 4), 6);
        checks.same("copy: NONE from commit 0", s.value(24, 0, 4, 5), NONE);
        checks.same("copy: as the head again", s.about(24, 2), 0);
    }

    private static void copyBringsOriginsAndNone() {
        SurveyStore s = new SurveyStore();
        Stores.paintOne(s, 0, 0, 1, 1, 5);
        s.commit(0);
        Stores.paintOne(s, 0, 0, 1, 1, 6);
        s.commit(0);
        Stores.paintOne(s, 0, 0, 1, 1, 5);
        s.commit(0);
        s.copy(0, 0, 1, 0, 1, 1);
        checks.same("copy: the same value", s.value(24, 0, 1, 1), 5);
        checks.same("copy: an older origin", s.origin(24, 0, 1, 1, 0), 1);
        checks.same("copy: changed by the origin", s.about(24, 2), 1);
        s.copy(0, 0, 3, 0, 1, 1);
        checks.same("copy: changed back", s.about(24, 2), 0);
        s.copy(0, 0, 0, 3, 1, 1);
        checks.same("copy: NONE", s.value(24, 0, 1, 1), NONE);
        checks.same("copy: NONE has no origin", s.origin(24, 0, 1, 1, 0), NONE);
    }

    private static void mapping() {
        SurveyStore s = new SurveyStore();
        s.paint(0, 0, 1);
        s.region(0, 0, 4, 4);
        s.paint(0, 0, 2);
        s.commit(0);
        s.entry(2, 1, 10);
        s.entry(5, 2, NONE);
        s.entry(6, 10, 11);
        s.region(3, 3, 2, 2);
        s.map(0, 0);
        checks.same("map: 1 to 10, and not on to 11", s.value(24, 0, 4, 4), 10);
        checks.same("map: its origin", s.origin(24, 0, 4, 4, 0), 24);
        checks.same("map: its origin's cell", s.origin(24, 0, 4, 4, 3), 4);
        checks.same("map: 2 to NONE", s.value(24, 0, 3, 3), NONE);
        checks.same("map: NONE has no origin", s.origin(24, 0, 3, 3, 0), NONE);
        checks.same("map: outside the region", s.value(24, 0, 2, 3), 2);
        checks.same("map: outside the region, its origin", s.origin(24, 0, 5, 5, 0), 1);
        s.map(0, 1);
        checks.same("map: another layer", s.total(24, 1, 1), 0);
    }

    private static void mapTakesTheFirst() {
        SurveyStore s = new SurveyStore();
        Stores.paintOne(s, 0, 0, 0, 0, 1);
        s.commit(0);
        s.entry(3, 1, 30);
        s.entry(1, 1, 20);
        s.map(0, 0);
        checks.same("map: the first entry, not the first that was set", s.value(24, 0, 0, 0), 20);
        s.entry(0, 20, 20);
        s.entry(1, 20, 21);
        s.commit(0);
        s.map(0, 0);
        checks.same("map: the first entry, though it changes nothing", s.value(24, 0, 0, 0), 20);
        checks.same("map: the same value keeps its origin", s.origin(24, 0, 0, 0, 0), 2);
        checks.same("map: not changed", s.about(24, 2), 0);
    }

    private static void combiningSums() {
        SurveyStore s = new SurveyStore();
        s.region(0, 0, 8, 8);
        s.paint(0, 0, 600000);
        s.paint(0, 1, 500000);
        s.region(0, 0, 1, 8);
        s.paint(0, 0, -600000);
        s.paint(0, 1, -400001);
        s.region(1, 0, 1, 8);
        s.paint(0, 0, 5);
        s.paint(0, 1, -7);
        s.region(2, 0, 1, 8);
        s.paint(0, 1, 0);
        s.commit(0);
        s.region(0, 0, 8, 4);
        s.combine(0, 0, 1, 0);
        checks.same("combine: brought down to 1000000", s.value(24, 0, 3, 3), 1000000);
        checks.same("combine: brought up to -1000000", s.value(24, 0, 0, 3), -1000000);
        checks.same("combine: the sum", s.value(24, 0, 1, 0), -2);
        checks.same("combine: its origin", s.origin(24, 0, 1, 2, 0), 24);
        checks.same("combine: its origin's layer", s.origin(24, 0, 1, 2, 1), 0);
        checks.same("combine: its origin's y", s.origin(24, 0, 1, 2, 3), 2);
        checks.same("combine: 0 more is no other value", s.origin(24, 0, 2, 2, 0), 1);
        checks.same("combine: outside the region", s.value(24, 0, 1, 4), 5);
        checks.same("combine: the second layer stays", s.value(24, 1, 1, 0), -7);
        checks.same("combine: the second layer's origin stays", s.origin(24, 1, 1, 0, 0), 1);
    }

    private static void combiningGreaterAndLesser() {
        SurveyStore s = new SurveyStore();
        s.region(0, 0, 1, 3);
        s.paint(0, 0, 5);
        s.paint(0, 1, 5);
        Stores.paintOne(s, 0, 1, 0, 0, 6);
        Stores.paintOne(s, 0, 1, 0, 1, 4);
        s.commit(0);
        s.region(0, 0, 1, 3);
        s.combine(0, 0, 1, 1);
        checks.same("greater: of 5 and 6", s.value(24, 0, 0, 0), 6);
        checks.same("greater: its origin", s.origin(24, 0, 0, 0, 1), 0);
        checks.same("greater: of 5 and 4", s.value(24, 0, 0, 1), 5);
        checks.same("greater: of 5 and 4, its origin", s.origin(24, 0, 0, 1, 0), 1);
        checks.same("greater: of 5 and 5, its origin", s.origin(24, 0, 0, 2, 0), 1);
        s.combine(0, 0, 1, 2);
        checks.same("lesser: of 6 and 6, pending from before", s.value(24, 0, 0, 0), 6);
        checks.same("lesser: of 5 and 4", s.value(24, 0, 0, 1), 4);
        checks.same("lesser: its origin", s.origin(24, 0, 0, 1, 0), 24);
        checks.same("lesser: of 5 and 5, its origin", s.origin(24, 0, 0, 2, 0), 1);
    }

    /** A region with four different numbers, and every cell of the layer looked at. */
    private static void editsKeepToTheRegion() {
        for (int edit = 0; edit < 4; edit++) {
            SurveyStore s = new SurveyStore();
            s.paint(0, 0, 3);
            s.paint(0, 1, 4);
            s.commit(0);
            s.entry(0, 3, 7);
            s.region(9, 20, 5, 3);
            switch (edit) {
                case 0:
                    s.paint(0, 0, 7);
                    break;
                case 1:
                    s.map(0, 0);
                    break;
                case 2:
                    s.combine(0, 0, 1, 0);
                    break;
                default:
                    s.copy(0, 0, 1, 1, 9, 20);
            }
            int due = edit < 3 ? 7 : 4;
            checks.same("edit " + edit + ": cells", s.differing(24, 1, 0), 15);
            for (int k = 0; k < 15; k++) {
                int at = s.differs(24, 1, 0, k);
                checks.same("edit " + edit + ": cell " + k, at, 32 * (20 + k / 5) + 9 + k % 5);
                checks.same("edit " + edit + ": value", s.value(24, 0, at % 32, at / 32), due);
            }
            checks.same("edit " + edit + ": the total of the region", s.total(24, 0, 0), 15 * due);
            checks.same("edit " + edit + ": how many in the region", s.total(24, 0, 1), 15);
        }
    }

    private static void editsKeepToTheirPlace() {
        SurveyStore s = new SurveyStore();
        s.paint(0, 0, 1);
        s.commit(0);
        s.branch(1, 1);
        s.entry(0, 1, 2);
        s.map(1, 0);
        s.combine(1, 1, 0, 0);
        Stores.corners(s, 0, 0, 32, 0, 32, 32);
        s.polygon(1, 2, 3, 4);
        s.copy(1, 3, 1, 0, 0, 0);
        checks.same("edits: of branch 1", s.about(25, 2), 1);
        checks.same("edits: not of branch 0", s.about(24, 2), 0);
        checks.same("edits: not of the commit", s.total(1, 0, 0), 1024);
        checks.same("edits: not of the commit's other layers", s.total(1, 1, 1), 0);
    }
}
