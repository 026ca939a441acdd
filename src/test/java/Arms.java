/** A SWITCH with so many ARMS of each VARIANT. */
final class Arms {
    private static final int SALT = 60;

    private Arms() {
    }

    /**
     * The SWITCH 0, which is ON, of 4 VARIANTS, with all of its WEIGHT in the VARIANT 0. The ARMS of the VARIANT v are
     * those of the USERS 100 * v, 100 * v + 1 and so on.
     */
    static Run of(Check check, int... many) {
        Run run = new Run(check).does("add(" + SALT + ", 4, false)").does("turn(0, true)");
        for (int variant = 0; variant < many.length; variant++) {
            // All of the WEIGHT is there meanwhile.
            if (variant > 0) {
                run.does("weigh(0, " + variant + ", 1000)");
            }
            for (int user = 100 * variant; user < 100 * variant + many[variant]; user++) {
                run.due("ask(0, " + user + ", 0, 0)", variant);
            }
            if (variant > 0) {
                run.does("weigh(0, " + variant + ", 0)");
            }
        }
        return run;
    }
}
