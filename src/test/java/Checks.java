/** Counts what a test asks, and prints every answer that is not the one that is due. */
final class Checks {
    interface Call {
        void run();
    }

    private static final int MOST_PRINTED = 40;

    private final String name;
    private String sentence = "";
    private int sentences;
    private int asked;
    private int wrong;

    Checks(String name) {
        this.name = name;
    }

    /** Runs the test of one sentence of the document; its words stand before every wrong answer. */
    void sentence(String words, Call test) {
        sentence = words + ": ";
        sentences++;
        int before = asked;
        try {
            test.run();
        } catch (RuntimeException e) {
            tell("the test was broken off by " + e);
        }
        if (asked == before) {
            tell("nothing was asked");
        }
        sentence = "";
    }

    void same(String what, long got, long due) {
        asked++;
        if (got != due) {
            tell(what + " answered " + got + ", due is " + due);
        }
    }

    void yes(String what, boolean got) {
        same(what, got ? 1 : 0, 1);
    }

    void no(String what, boolean got) {
        same(what, got ? 1 : 0, 0);
    }

    void illegalArgument(String what, Call call) {
        refused(what, IllegalArgumentException.class, call);
    }

    void illegalState(String what, Call call) {
        refused(what, IllegalStateException.class, call);
    }

    private void refused(String what, Class<?> due, Call call) {
        asked++;
        try {
            call.run();
        } catch (RuntimeException e) {
            if (e.getClass() != due) {
                tell(what + " threw " + e + ", due is " + due.getSimpleName());
            }
            return;
        }
        tell(what + " threw nothing, due is " + due.getSimpleName());
    }

    private void tell(String text) {
        wrong++;
        if (wrong <= MOST_PRINTED) {
            System.out.println(name + ": " + sentence + text);
        }
    }

    boolean anyWrong() {
        return wrong > 0;
    }

    void end() {
        String about = sentences == 0 ? "" : " about " + sentences + " sentences";
        System.out.println(name + ": " + asked + " answers asked" + about + ", " + wrong + " wrong");
        System.exit(wrong == 0 && asked > 0 ? 0 : 1);
    }
}
