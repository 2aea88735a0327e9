/** Counts the answers that are not as due, for one test. */
final class Check {
    static final Class<?> INDEX = IndexOutOfBoundsException.class;
    static final Class<?> ARGUMENT = IllegalArgumentException.class;
    static final Class<?> STATE = IllegalStateException.class;

    interface Call {
        Object answer();
    }

    private final String title;
    private String about = "";
    private int asked = 0;
    private int wrong = 0;

    Check(String title) {
        this.title = title;
    }

    /** What the next calls are about is told ahead of each that is not as due. */
    void about(String sentence) {
        about = sentence.isEmpty() ? "" : "[" + sentence + "] ";
    }

    int asked() {
        return asked;
    }

    void due(String call, long want, long got) {
        tell(call, Long.toString(want), Long.toString(got));
    }

    /** Compared to the last bit, since the document reckons its doubles in an order that it tells. */
    void due(String call, double want, double got) {
        tell(call, Double.toString(want), Double.toString(got));
    }

    void due(String call, boolean want, boolean got) {
        tell(call, Boolean.toString(want), Boolean.toString(got));
    }

    void due(String call, String want, String got) {
        tell(call, want, got);
    }

    /** The class of the exception has to be the very one, so that none of the machine's passes for it. */
    void refuses(Disc x, String call, Class<?> want, Call run) {
        String before = x.snapshot();
        String got = outcome(run);
        tell(call, "throws." + want.getSimpleName(), got);
        if (!before.equals(x.snapshot())) {
            tell(call + " changes nothing", "the same", "another state");
        }
    }

    static String outcome(Call run) {
        try {
            return String.valueOf(run.answer());
        } catch (RuntimeException e) {
            return "throws." + e.getClass().getSimpleName();
        }
    }

    void finish() {
        System.out.println(title + ": " + asked + " asked, " + wrong + " not as due");
        if (wrong > 0 || asked == 0) {
            System.exit(1);
        }
    }

    private void tell(String call, String want, String got) {
        asked++;
        if (!want.equals(got)) {
            wrong++;
            System.out.println(title + ": " + about + call + " answered " + got + ", due is " + want);
        }
    }
}
