/** Counts and prints the calls whose answer is not the one that is due. */
final class Check {
    static final Class<? extends RuntimeException> ARGUMENT = IllegalArgumentException.class;
    static final Class<? extends RuntimeException> STATE = IllegalStateException.class;
    static final Class<? extends RuntimeException> INDEX = IndexOutOfBoundsException.class;

    private int wrong;
    private int looked;
    private String about = "";

    interface Call {
        void make();
    }

    /** What the answers looked at from now on are about; printed ahead of each wrong one. */
    void about(String what) {
        about = what + ": ";
    }

    int wrong() {
        return wrong;
    }

    int looked() {
        return looked;
    }

    void due(String call, long got, long want) {
        looked++;
        if (got != want) {
            tell(call + " answered " + got + ", due is " + want);
        }
    }

    void due(String call, boolean got, boolean want) {
        due(call, got ? 1 : 0, want ? 1 : 0);
    }

    void dueDouble(String call, double got, double want) {
        looked++;
        if (got != want) {
            tell(call + " answered " + got + ", due is " + want);
        }
    }

    void dueText(String call, String got, String want) {
        looked++;
        if (!got.equals(want)) {
            tell(call + " answered " + got + ", due is " + want);
        }
    }

    void dueThrow(String call, Class<? extends RuntimeException> want, Call made) {
        looked++;
        try {
            made.make();
            tell(call + " threw nothing, due is " + want.getSimpleName());
        } catch (RuntimeException thrown) {
            if (thrown.getClass() != want) {
                tell(call + " threw " + thrown + ", due is " + want.getSimpleName());
            }
        }
    }

    void end() {
        if (wrong > 0 || looked == 0) {
            System.out.println(wrong + " of " + looked + " answers are wrong");
            System.exit(1);
        }
        System.out.println(looked + " answers are as due");
    }

    private void tell(String what) {
        wrong++;
        if (wrong <= 40) {
            System.out.println(about + what);
        }
    }
}
