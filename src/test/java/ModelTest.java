import java.util.Random;

/** All promises at once: long mixed runs, each answer held against PlainModel's. */
final class ModelTest {
    private static final int NONE = SurveyStore.NONE;
    private static final int RUNS = 240;
    private static final int CALLS = 500;
    private static final int[] ODD = {-1, 4, 6, 8, 24, 28, 33, 1000001, -1000001, Integer.MAX_VALUE, NONE, NONE + 1};
    private static final int[] VALUES = {0, 1, 2, 3, -1, 600000, -600000, 1000000, -1000000};
    private static final int THREW_ARGUMENT = 123456789;
    private static final int THREW_STATE = 123456790;
    private static final int DONE = 123456791;
    private static final Checks checks = new Checks("ModelTest");

    private interface Call {
        int answer();
    }

    private final Random random;
    private final String name;
    private final SurveyStore store = new SurveyStore();
    private final PlainModel model = new PlainModel();
    // Some runs seldom ask for what isn't there, so that they come far.
    private final int oddity;
    private static int crossed;
    private static int wide;
    private static int deep;
    private static int deepest;

    private ModelTest(int seed) {
        random = new Random(seed);
        name = "run " + seed;
        oddity = seed % 4 == 0 ? 25 : 400;
    }

    public static void main(String[] args) {
        for (int seed = 0; seed < RUNS && !checks.anyWrong(); seed++) {
            ModelTest run = new ModelTest(seed);
            if (seed % 8 == 7) {
                run.ladder();
            } else if (seed % 3 == 0) {
                run.mixedCalls();
            } else {
                run.history(seed % 3 == 1);
            }
            run.compareAll();
        }
        System.out.println("ModelTest: merges with two nearest or more " + crossed + ", with three or more " + wide
                + ", with bases of bases " + deep + ", the deepest " + deepest);
        checks.yes("there were crossed merges", crossed > 100);
        checks.yes("there were merges with three nearest", wide > 10);
        checks.yes("there were bases of bases", deep > 10);
        checks.yes("there were bases nine deep", deepest >= 9);
        checks.end();
    }

    private static int answerOf(Call call) {
        try {
            return call.answer();
        } catch (IllegalArgumentException e) {
            return THREW_ARGUMENT;
        } catch (IllegalStateException e) {
            return THREW_STATE;
        }
    }

    private static int one(boolean b) {
        return b ? 1 : 0;
    }

    private int ask(String what, Call ofStore, Call ofModel) {
        int due = answerOf(ofModel);
        checks.same(name + ": " + what, answerOf(ofStore), due);
        return due;
    }

    private void run(String what, Runnable ofStore, Runnable ofModel) {
        ask(what, () -> done(ofStore), () -> done(ofModel));
    }

    private static int done(Runnable call) {
        call.run();
        return DONE;
    }

    private void place(int x, int y, int w, int h) {
        ask("region", () -> one(store.region(x, y, w, h)), () -> one(model.region(x, y, w, h)));
    }

    private int pick(int bound) {
        return random.nextInt(oddity) == 0 ? ODD[random.nextInt(ODD.length)] : random.nextInt(bound);
    }

    private int pickBranch() {
        int b = pick(4);
        for (int tries = 0; tries < 5 && b >= 0 && b < 4 && model.head(b) < 0; tries++) {
            b = pick(4);
        }
        return b;
    }

    private int pickValue() {
        if (random.nextInt(oddity) == 0) {
            return ODD[random.nextInt(ODD.length)];
        }
        return random.nextInt(5) == 0 ? NONE : VALUES[random.nextInt(random.nextInt(3) == 0 ? VALUES.length : 4)];
    }

    private int pickPlace() {
        return random.nextBoolean() ? pick(model.made()) : 24 + pickBranch();
    }

    private void mixedCalls() {
        for (int i = 0; i < CALLS; i++) {
            int group = random.nextInt(100);
            if (group < 12) {
                set();
            } else if (group < 50) {
                edit();
            } else if (group < 75) {
                grow(true);
            } else {
                read();
            }
        }
    }

    /** Few edits and many commits and merges: so merges get several nearest commits. */
    private void history(boolean settling) {
        for (int i = 0; i < CALLS; i++) {
            int group = random.nextInt(100);
            if (group < 8) {
                set();
            } else if (group < 20 && model.made() < 5 || group < 12) {
                edit();
            } else if (group < 80) {
                grow(settling);
            } else {
                read();
            }
        }
    }

    /** Two branches that merge each other's heads by turns: every rung is a base of the next. */
    private void ladder() {
        run("branch", () -> store.branch(1, 0), () -> model.branch(1, 0));
        while (model.made() < 22) {
            int[] heads = {model.head(0), model.head(1)};
            for (int b = 0; b < 2; b++) {
                if (heads[0] > 0 && heads[1] > 0) {
                    mergeOne(b, heads[1 - b]);
                    settleAll(b, true);
                }
                for (int i = 0; i < 3; i++) {
                    place(random.nextInt(5), 0, 1, 1);
                    paint(b, random.nextInt(2), random.nextInt(4) == 0 ? NONE : random.nextInt(3));
                }
                int branch = b;
                ask("commit", () -> store.commit(branch), () -> model.commit(branch));
            }
        }
        mergeOne(0, model.head(1));
    }

    private void set() {
        int a = pick(8);
        switch (random.nextInt(7)) {
            case 0: {
                int layer = pick(4);
                int kind = pick(4);
                ask("kind", () -> one(store.kind(layer, kind)), () -> one(model.kind(layer, kind)));
                break;
            }
            case 1: {
                int i = pick(6);
                int x = pick(33);
                int y = pick(33);
                ask("corner", () -> one(store.corner(i, x, y)), () -> one(model.corner(i, x, y)));
                break;
            }
            case 2: {
                int from = pickValue();
                int to = pickValue();
                ask("entry", () -> one(store.entry(a, from, to)), () -> one(model.entry(a, from, to)));
                break;
            }
            default: {
                boolean small = random.nextInt(4) > 0;
                int x = pick(small ? 4 : 32);
                int y = pick(small ? 2 : 32);
                int w = 1 + pick(small ? 3 : 32);
                int h = 1 + pick(small ? 2 : 32);
                place(x, y, w, h);
            }
        }
    }

    private void edit() {
        int b = pickBranch();
        int layer = pick(4);
        int v = pickValue();
        switch (random.nextInt(8)) {
            case 0: {
                int n = random.nextInt(10) == 0 ? pick(9) : 3 + random.nextInt(4);
                run("polygon", () -> store.polygon(b, layer, n, v), () -> model.polygon(b, layer, n, v));
                break;
            }
            case 1: {
                int commit = pick(model.made());
                int from = pick(4);
                int x = pick(random.nextBoolean() ? 4 : 32);
                int y = pick(random.nextBoolean() ? 2 : 32);
                run("copy", () -> store.copy(b, layer, commit, from, x, y),
                        () -> model.copy(b, layer, commit, from, x, y));
                break;
            }
            case 2:
                run("map", () -> store.map(b, layer), () -> model.map(b, layer));
                break;
            case 3: {
                int second = pick(4);
                int way = pick(3);
                run("combine", () -> store.combine(b, layer, second, way), () -> model.combine(b, layer, second, way));
                break;
            }
            default:
                paint(b, layer, v);
        }
    }

    private void paint(int b, int layer, int v) {
        run("paint", () -> store.paint(b, layer, v), () -> model.paint(b, layer, v));
    }

    private void grow(boolean settling) {
        int b = pickBranch();
        int commit = pick(model.made());
        int what = random.nextInt(20);
        if (what < 1) {
            ask("drop", () -> one(store.drop(b)), () -> one(model.drop(b)));
        } else if (what < 4) {
            int fresh = pick(4);
            run("branch", () -> store.branch(fresh, commit), () -> model.branch(fresh, commit));
        } else if (what < 10) {
            ask("commit", () -> store.commit(b), () -> model.commit(b));
        } else if (what < 13) {
            settleAll(b, settling);
        } else {
            int from = random.nextInt(4);
            int other = model.head(from) >= 0 && random.nextInt(3) > 0 ? model.head(from) : commit;
            mergeOne(b, other);
        }
    }

    private void mergeOne(int b, int commit) {
        int conflicts = ask("merge", () -> store.merge(b, commit), () -> model.merge(b, commit));
        if (conflicts > 4096) {
            return;
        }
        crossed += model.widestBase > 1 ? 1 : 0;
        wide += model.widestBase > 2 ? 1 : 0;
        deep += model.deepestBase > 1 ? 1 : 0;
        deepest = Math.max(deepest, model.deepestBase);
        for (int i = 0; i <= conflicts && i < 30; i++) {
            for (int what = -1; what < 8; what++) {
                int index = i;
                int asked = what;
                ask("conflict", () -> store.conflict(b, index, asked), () -> model.conflict(b, index, asked));
            }
        }
    }

    private void settleAll(int b, boolean settling) {
        if (b < 0 || b > 3 || !settling) {
            int i = pick(3);
            int v = pickValue();
            ask("settle", () -> store.settle(b, i, v), () -> model.settle(b, i, v));
            return;
        }
        int most = model.unsettled(b) > 60 ? 3 : 60;
        for (int i = 0; i < most && model.unsettled(b) > 0; i++) {
            int index = i;
            int v = pickValue();
            ask("settle", () -> store.settle(b, index, v), () -> model.settle(b, index, v));
        }
        if (model.unsettled(b) > 0) {
            ask("drop", () -> one(store.drop(b)), () -> one(model.drop(b)));
        }
    }

    private void read() {
        int place = pickPlace();
        int other = pickPlace();
        int layer = pick(4);
        int x = pick(random.nextBoolean() ? 5 : 32);
        int y = pick(random.nextBoolean() ? 3 : 32);
        int what = pick(4);
        switch (random.nextInt(9)) {
            case 0:
                ask("value", () -> store.value(place, layer, x, y), () -> model.value(place, layer, x, y));
                break;
            case 1:
                ask("origin", () -> store.origin(place, layer, x, y, what),
                        () -> model.origin(place, layer, x, y, what));
                break;
            case 2:
                ask("total", () -> store.total(place, layer, what), () -> model.total(place, layer, what));
                break;
            case 3:
                ask("differing", () -> store.differing(place, other, layer),
                        () -> model.differing(place, other, layer));
                break;
            case 4:
                ask("differs", () -> store.differs(place, other, layer, x),
                        () -> model.differs(place, other, layer, x));
                break;
            case 5:
                ask("nearest", () -> store.nearest(place, other, what), () -> model.nearest(place, other, what));
                break;
            case 6:
                ask("about", () -> store.about(place, what), () -> model.about(place, what));
                break;
            case 7: {
                int b = pickBranch();
                ask("conflict", () -> store.conflict(b, x, what + 3), () -> model.conflict(b, x, what + 3));
                break;
            }
            default:
                ask("blocks", () -> store.blocks(layer), () -> model.blocks(layer));
        }
    }

    private void compareAll() {
        for (int p = -1; p < 29; p++) {
            int place = p;
            for (int w = 0; w < 3; w++) {
                int what = w;
                ask("about", () -> store.about(place, what), () -> model.about(place, what));
            }
            for (int layer = 0; layer < 4; layer++) {
                compareLayer(place, layer);
            }
        }
        for (int a = 0; a < model.made(); a++) {
            for (int b = 0; b < model.made(); b++) {
                for (int k = 0; k < 4; k++) {
                    checks.same(name + ": nearest", store.nearest(a, b, k), model.nearest(a, b, k));
                }
            }
        }
    }

    private void compareLayer(int place, int layer) {
        int wrong = 0;
        for (int y = 0; y < 32; y++) {
            for (int x = 0; x < 32; x++) {
                wrong += one(store.value(place, layer, x, y) != model.value(place, layer, x, y));
                for (int what = 0; what < 4; what++) {
                    int due = model.origin(place, layer, x, y, what);
                    wrong += one(store.origin(place, layer, x, y, what) != due);
                }
            }
        }
        checks.same(name + ": wrong values and origins of place " + place + ", layer " + layer, wrong, 0);
    }
}
