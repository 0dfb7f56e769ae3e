/** What the tests share: comparing answers, expecting exceptions, typing texts and reading lines. */
final class Check {
    private static int wrong = 0;
    private static String part = "";

    private Check() {
    }

    static void begin(String name) {
        part = name;
    }

    static void same(String call, Object want, Object got) {
        if (!want.equals(got)) {
            complain(call + " answered " + got + ", due is " + want);
        }
    }

    static void fails(String call, Class<? extends RuntimeException> want, Runnable action) {
        String got = "nothing";
        try {
            action.run();
        } catch (RuntimeException e) {
            got = e.getClass().getSimpleName();
        }
        if (!got.equals(want.getSimpleName())) {
            complain(call + " threw " + got + ", due is " + want.getSimpleName());
        }
    }

    /** Expects that the action is refused for a reason with a detail. */
    static void refuses(String call, QuakeRehearsal x, int reason, int detail, Runnable action) {
        fails(call, UnsupportedOperationException.class, action);
        same("the reason of " + call, reason, x.refusal(false));
        same("the detail of " + call, detail, x.refusal(true));
    }

    static void complain(String what) {
        wrong++;
        System.out.println(part + ": " + what);
    }

    static int wrongSoFar() {
        return wrong;
    }

    static void end() {
        if (wrong > 0) {
            System.out.println(wrong + " answers are not as due");
            System.exit(1);
        }
    }

    static void type(QuakeRehearsal x, String text) {
        for (int i = 0; i < text.length(); i++) {
            x.append(text.charAt(i));
        }
    }

    static int run(QuakeRehearsal x, String text) {
        type(x, text);
        return x.run();
    }

    static String lineOf(QuakeRehearsal x, int prop) {
        return lineRead(x, x.line(prop));
    }

    static String programmeOf(QuakeRehearsal x) {
        return lineRead(x, x.programmeLine());
    }

    private static String lineRead(QuakeRehearsal x, int length) {
        StringBuilder text = new StringBuilder();
        for (int i = 0; i < length; i++) {
            text.append(x.character(i));
        }
        fails("character(" + length + ")", IndexOutOfBoundsException.class, () -> x.character(length));
        return text.toString();
    }

    /** Places a cup, a lamp or a cat, by the number of its kind. */
    static int place(QuakeRehearsal x, int kind, int floor, int number) {
        return kind == 1 ? x.cup(floor, number) : kind == 2 ? x.lamp(floor, number) : x.cat(floor, number);
    }

    /** Sets the machine to a strength, to which it may be set already, and performs a shock of it. */
    static int shock(QuakeRehearsal x, int strength) {
        if (x.account(5) != strength) {
            x.set(strength);
        }
        return x.shock();
    }

    /** All that changes can change, as far as it can be asked without writing a line. */
    static String stateOf(QuakeRehearsal x) {
        StringBuilder text = new StringBuilder();
        int props = x.account(0);
        int planned = x.account(10);
        for (int prop = 0; prop < props; prop++) {
            for (int what = 0; what <= 6; what++) {
                text.append(x.propOf(prop, what)).append(what < 6 ? "," : ";");
            }
        }
        for (int place = 0; place < planned; place++) {
            text.append(" +").append(x.programme(place));
        }
        for (int what = 0; what <= 10; what++) {
            text.append(" ").append(x.account(what));
        }
        return text.toString();
    }
}
