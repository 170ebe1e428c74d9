import java.lang.management.ManagementFactory;

/**
 * What a run makes is never given back, so the dearest runs of 512 calls must stay far below the
 * room of 7.3 million fields and elements; here they are counted in bytes, four or more to each.
 */
final class RoomTest {
    private static final int CALLS = 512;
    private static final long MOST_BYTES = 4_000_000;
    private static final Checks checks = new Checks("RoomTest");
    private static final com.sun.management.ThreadMXBean THREADS =
            (com.sun.management.ThreadMXBean) ManagementFactory.getThreadMXBean();

    private interface Run {
        void run(SurveyStore s);
    }

    public static void main(String[] args) {
        measure("a crossed history", RoomTest::crossedHistory);
        measure("branches made, merged and dropped", RoomTest::branchesAgainAndAgain);
        measure("blocks", RoomTest::blocksAgainAndAgain);
        measure("edits", RoomTest::editsAgainAndAgain);
        measure("refused calls", RoomTest::refusedAgainAndAgain);
        checks.end();
    }

    private static void measure(String name, Run run) {
        run.run(new SurveyStore());
        long before = THREADS.getThreadAllocatedBytes(Thread.currentThread().getId());
        run.run(new SurveyStore());
        long made = THREADS.getThreadAllocatedBytes(Thread.currentThread().getId()) - before;
        System.out.println("RoomTest: " + name + " made " + made + " bytes");
        checks.yes(name + " made " + made + " bytes", made < MOST_BYTES);
    }

    /** Two branches merge each other's heads by turns, as long as there are commits. */
    private static void crossedHistory(SurveyStore s) {
        for (int layer = 0; layer < 4; layer++) {
            s.kind(layer, 3);
        }
        for (int b = 1; b < 4; b++) {
            s.branch(b, 0);
        }
        for (int b = 0; b < 4; b++) {
            s.paint(b, b, 5 + b);
            s.commit(b);
        }
        for (int n = 5; n < 23; n += 2) {
            int one = s.about(24, 0);
            int two = s.about(25, 0);
            s.merge(0, two);
            s.merge(1, one);
            s.commit(0);
            s.commit(1);
        }
        s.merge(2, 1);
        s.merge(3, 1);
        s.merge(0, s.about(25, 0));
        for (int layer = 0; layer < 4; layer++) {
            s.blocks(layer);
        }
    }

    private static void branchesAgainAndAgain(SurveyStore s) {
        Stores.paintFork(s);
        for (int i = 0; i < CALLS / 3; i++) {
            int b = i % 4;
            s.drop(b);
            s.branch(b, 1);
            s.merge(b, 2);
        }
    }

    private static void blocksAgainAndAgain(SurveyStore s) {
        for (int i = 0; i < CALLS; i++) {
            s.blocks(i % 4);
        }
    }

    private static void editsAgainAndAgain(SurveyStore s) {
        s.corner(1, 32, 0);
        s.corner(2, 32, 32);
        s.entry(0, 1, 2);
        for (int i = 0; i < CALLS / 5; i++) {
            s.paint(0, 0, i);
            s.polygon(0, 1, 3, i);
            s.map(0, 1);
            s.combine(0, 2, 1, 0);
            s.copy(0, 3, 0, 0, 0, 0);
        }
    }

    private static void refusedAgainAndAgain(SurveyStore s) {
        for (int i = 0; i < CALLS; i++) {
            try {
                s.merge(0, i % 2);
            } catch (IllegalArgumentException | IllegalStateException e) {
                // what it costs to be refused is what is measured
            }
        }
    }
}
