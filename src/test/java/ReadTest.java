/** Promises 17 to 21 and 24: values, origins, totals, differences and blocks. */
final class ReadTest {
    private static final int NONE = SurveyStore.NONE;
    private static final Checks checks = new Checks("ReadTest");

    public static void main(String[] args) {
        values();
        origins();
        totals();
        differences();
        differencesOfBranches();
        blocksOfOneLayer();
        blocksByValuesAlone();
        blocksOfManyValues();
        checks.end();
    }

    private static SurveyStore withOneCommit() {
        SurveyStore s = new SurveyStore();
        Stores.paintOne(s, 0, 2, 31, 30, 77);
        s.commit(0);
        return s;
    }

    private static void values() {
        SurveyStore s = withOneCommit();
        checks.same("value: of a commit", s.value(1, 2, 31, 30), 77);
        checks.same("value: of a branch", s.value(24, 2, 31, 30), 77);
        checks.same("value: NONE", s.value(1, 2, 30, 31), NONE);
        checks.same("value: of another layer", s.value(1, 1, 31, 30), NONE);
        checks.same("value: of commit 0", s.value(0, 2, 31, 30), NONE);
        s.paint(0, 3, 5);
        checks.same("value: painted", s.value(24, 3, 31, 30), 5);
        s.region(0, 0, 1, 1);
        checks.same("value: the region is nothing to it", s.value(24, 3, 31, 30), 5);
    }

    private static void origins() {
        SurveyStore s = withOneCommit();
        int[] due = {1, 2, 31, 30};
        for (int what = 0; what < 4; what++) {
            checks.same("origin: of a commit, what " + what, s.origin(1, 2, 31, 30, what), due[what]);
            checks.same("origin: of a branch, what " + what, s.origin(24, 2, 31, 30, what), due[what]);
            checks.same("origin: without a value, what " + what, s.origin(1, 2, 0, 0, what), NONE);
        }
    }

    private static void totals() {
        SurveyStore s = new SurveyStore();
        Stores.paintOne(s, 0, 1, 4, 4, -9);
        Stores.paintOne(s, 0, 1, 5, 4, 20);
        Stores.paintOne(s, 0, 1, 6, 6, 3);
        Stores.paintOne(s, 0, 1, 7, 7, 1000);
        s.commit(0);
        s.region(4, 4, 3, 3);
        for (int place = 1; place <= 24; place += 23) {
            checks.same("total: sum", s.total(place, 1, 0), 14);
            checks.same("total: how many", s.total(place, 1, 1), 3);
            checks.same("total: least", s.total(place, 1, 2), -9);
            checks.same("total: greatest", s.total(place, 1, 3), 20);
        }
        s.region(4, 4, 1, 1);
        checks.same("total: greatest below 0", s.total(1, 1, 3), -9);
        s.region(7, 7, 1, 1);
        checks.same("total: least above 0", s.total(1, 1, 2), 1000);
        s.region(0, 0, 32, 32);
        s.paint(0, 0, 1000000);
        checks.same("total: the greatest sum", s.total(24, 0, 0), 1024000000);
        s.paint(0, 0, -1000000);
        checks.same("total: the least sum", s.total(24, 0, 0), -1024000000);
    }

    private static void differences() {
        SurveyStore s = new SurveyStore();
        Stores.paintOne(s, 0, 1, 31, 0, 1);
        Stores.paintOne(s, 0, 1, 2, 3, 2);
        Stores.paintOne(s, 0, 1, 0, 31, 3);
        Stores.paintOne(s, 0, 1, 31, 31, 4);
        s.commit(0);
        Stores.paintOne(s, 0, 1, 2, 3, 9);
        Stores.paintOne(s, 0, 1, 31, 31, 4);
        Stores.paintOne(s, 0, 1, 0, 31, NONE);
        s.commit(0);
        checks.same("differing: from nothing", s.differing(0, 1, 1), 4);
        int[] due = {31, 98, 992, 1023};
        for (int k = 0; k < due.length; k++) {
            checks.same("differs: from nothing " + k, s.differs(0, 1, 1, k), due[k]);
        }
        checks.same("differs: no more", s.differs(0, 1, 1, 4), -1);
        checks.same("differing: by values, not origins", s.differing(1, 2, 1), 2);
        checks.same("differing: the other way round", s.differing(2, 1, 1), 2);
        checks.same("differs: a value", s.differs(1, 2, 1, 0), 98);
        checks.same("differs: NONE", s.differs(2, 1, 1, 1), 992);
        checks.same("differs: no third", s.differs(1, 2, 1, 2), -1);
        checks.same("differing: another layer", s.differing(1, 2, 0), 0);
        checks.same("differing: from itself", s.differing(2, 2, 1), 0);
        checks.same("differs: from itself", s.differs(2, 2, 1, 0), -1);
    }

    private static void differencesOfBranches() {
        SurveyStore s = withOneCommit();
        s.branch(3, 0);
        s.paint(3, 2, 77);
        checks.same("differing: branches", s.differing(24, 27, 2), 0);
        s.region(0, 0, 32, 32);
        s.paint(3, 3, 1);
        checks.same("differing: a branch and a commit", s.differing(27, 1, 3), 1024);
        checks.same("differs: the last", s.differs(27, 1, 3, 1023), 1023);
        checks.same("differs: none behind the last", s.differs(27, 1, 3, 1024), -1);
    }

    private static void blocksOfOneLayer() {
        SurveyStore s = new SurveyStore();
        s.paint(0, 0, 1);
        checks.same("blocks: all the same", s.blocks(0), 1);
        checks.same("blocks: of another layer", s.blocks(1), 0);
        Stores.paintOne(s, 0, 0, 5, 9, NONE);
        checks.same("blocks: a hole", s.blocks(0), 2);
        Stores.paintOne(s, 0, 0, 6, 9, NONE);
        checks.same("blocks: a wider hole", s.blocks(0), 2);
        Stores.paintOne(s, 0, 0, 31, 31, 2);
        checks.same("blocks: the last cell", s.blocks(0), 3);
        s.region(0, 0, 32, 32);
        s.paint(0, 0, NONE);
        checks.same("blocks: nothing", s.blocks(0), 0);
        Stores.paintOne(s, 0, 0, 3, 3, 0);
        checks.same("blocks: one zero", s.blocks(0), 1);
        Stores.paintOne(s, 0, 0, 4, 4, 0);
        checks.same("blocks: a zero elsewhere in a block", s.blocks(0), 2);
        Stores.paintOne(s, 0, 0, 7, 3, 0);
        checks.same("blocks: the same block in another place", s.blocks(0), 2);
    }

    private static void blocksByValuesAlone() {
        SurveyStore s = new SurveyStore();
        Stores.paintOne(s, 0, 0, 0, 0, 1);
        s.commit(0);
        checks.same("blocks: a commit and its branch", s.blocks(0), 1);
        Stores.paintOne(s, 0, 0, 0, 0, 1);
        s.commit(0);
        checks.same("blocks: other origins are no other block", s.blocks(0), 1);
        Stores.paintOne(s, 0, 0, 8, 16, 1);
        checks.same("blocks: other places are no other block", s.blocks(0), 1);
        Stores.paintOne(s, 0, 1, 0, 0, 2);
        checks.same("blocks: other layers don't count", s.blocks(0), 1);
    }

    private static void blocksOfManyValues() {
        SurveyStore s = new SurveyStore();
        for (int b = 1; b < 4; b++) {
            s.branch(b, 0);
        }
        int v = 0;
        int due = 0;
        for (int b = 0; b < 4; b++) {
            for (int i = 0; i < 20; i++) {
                s.region(4 * (i % 8), 4 * (i / 8), 1 + i % 4, 1 + i % 3);
                s.paint(b, 2, v++);
                due++;
            }
        }
        checks.same("blocks: many", s.blocks(2), due);
        checks.same("blocks: many, asked again", s.blocks(2), due);
    }
}
