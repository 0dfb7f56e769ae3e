/**
 * Two objects with the same past. One gets a call that throws; then both are asked all, at once, behind each undo that
 * can be done and behind restore, and must answer alike.
 */
final class Twins {
    private final String call;
    private final Act past;
    private final Class<? extends RuntimeException> want;
    private final Act act;

    /** What is done with an object. */
    interface Act {
        void on(QuakeRehearsal x);
    }

    private Twins(String call, Act past, Class<? extends RuntimeException> want, Act act) {
        this.call = call;
        this.past = past;
        this.want = want;
        this.act = act;
    }

    /** Expects that the call throws and changes nothing. */
    static void stay(String call, Act past, Class<? extends RuntimeException> want, Act act) {
        QuakeRehearsal twin = after(past);
        new Twins(call, past, want, act).check(twin.account(11), twin.errorPosition(), refusalOf(twin));
    }

    /** Expects that the call is refused and changes nothing but the reason. */
    static void refuse(String call, Act past, int reason, int detail, Act act) {
        QuakeRehearsal twin = after(past);
        new Twins(call, past, UnsupportedOperationException.class, act)
            .check(twin.account(11), twin.errorPosition(), reason + " " + detail);
    }

    /** Expects that run of the text throws and changes nothing but the input and the error position. */
    static void runStays(String text, Act past, int errorPosition) {
        new Twins("run of " + text, past, IllegalArgumentException.class, x -> Check.run(x, text))
            .check(0, errorPosition, refusalOf(after(past)));
    }

    /** Expects that run of the text is refused and changes nothing but the input, the error position and the reason. */
    static void runRefuses(String text, Act past, int reason, int detail) {
        new Twins("run of " + text, past, UnsupportedOperationException.class, x -> Check.run(x, text))
            .check(0, -1, reason + " " + detail);
    }

    private void check(int input, int errorPosition, String refusal) {
        QuakeRehearsal x = behindTheCall();
        QuakeRehearsal twin = after(past);
        Check.same("the line behind " + call, lineLeftIn(twin), lineLeftIn(x));
        Check.same("the input behind " + call, input, x.account(11));
        Check.same("the error position behind " + call, errorPosition, x.errorPosition());
        Check.same("the reason behind " + call, refusal, refusalOf(x));
        Check.same("the state behind " + call, changeableOf(twin), changeableOf(x));
        checkUndo(twin.account(12));
        checkRestore();
    }

    private void checkUndo(int changes) {
        for (int undone = 1; undone <= changes; undone++) {
            QuakeRehearsal x = behindTheCall();
            QuakeRehearsal twin = after(past);
            for (int i = 0; i < undone; i++) {
                Check.same("undo() behind " + call, twin.undo(), x.undo());
            }
            Check.same("the state " + undone + " changes ahead of " + call, changeableOf(twin), changeableOf(x));
        }
    }

    private void checkRestore() {
        QuakeRehearsal x = behindTheCall();
        QuakeRehearsal twin = after(past);
        Check.same("restore() behind " + call, restored(twin), restored(x));
        Check.same("the state restored behind " + call, changeableOf(twin), changeableOf(x));
    }

    private QuakeRehearsal behindTheCall() {
        QuakeRehearsal x = after(past);
        Check.fails(call, want, () -> act.on(x));
        return x;
    }

    private static QuakeRehearsal after(Act past) {
        QuakeRehearsal x = new QuakeRehearsal();
        past.on(x);
        return x;
    }

    private static String changeableOf(QuakeRehearsal x) {
        return Check.stateOf(x) + " and " + x.account(12) + " changes";
    }

    private static String refusalOf(QuakeRehearsal x) {
        try {
            return x.refusal(false) + " " + x.refusal(true);
        } catch (java.util.NoSuchElementException e) {
            return "none";
        }
    }

    private static int restored(QuakeRehearsal x) {
        try {
            return x.restore();
        } catch (IllegalStateException e) {
            return -1;
        }
    }

    /** The line that was written last, as it is told without writing one. */
    private static String lineLeftIn(QuakeRehearsal x) {
        StringBuilder text = new StringBuilder();
        try {
            for (int i = 0; i < 100; i++) {
                text.append(x.character(i));
            }
        } catch (IndexOutOfBoundsException e) {
            return text.toString();
        }
        return text + "...";
    }
}
