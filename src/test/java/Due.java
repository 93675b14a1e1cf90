/** Counts the answers that are not as due, and ends a test with 1 if there was one. */
final class Due {
    private final String test;
    private String about = "";
    private int looked;
    private int wrong;

    Due(String test) {
        this.test = test;
    }

    /** What the answers from here on are looked at for; it is told with each wrong one. */
    void about(String words) {
        about = " (" + words + ")";
    }

    int looked() {
        return looked;
    }

    void is(String call, long got, long want) {
        looked++;
        if (got != want) {
            wrong++;
            System.out.println(test + about + ": " + call + " answered " + got + ", due is " + want);
        }
    }

    void is(String call, boolean got, boolean want) {
        is(call, got ? 1 : 0, want ? 1 : 0);
    }

    /** An answer, and the trouble that is due behind it. */
    void is(MirrorTower x, String call, long got, long want, int trouble) {
        is(call, got, want);
        is("trouble() behind " + call, x.trouble(), trouble);
    }

    void is(MirrorTower x, String call, boolean got, boolean want, int trouble) {
        is(x, call, got ? 1 : 0, want ? 1 : 0, trouble);
    }

    void end() {
        System.out.println(test + ": " + looked + " answers, " + wrong + " not as due");
        if (wrong != 0 || looked == 0) {
            System.exit(1);
        }
    }
}
