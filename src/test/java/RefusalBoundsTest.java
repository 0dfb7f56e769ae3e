import java.util.NoSuchElementException;

/** "Reasons" and "Exceptions" in the document: what is refused, for which reason first, and what is thrown first. */
public final class RefusalBoundsTest {
    private static final Class<IllegalArgumentException> WRONG = IllegalArgumentException.class;
    private static final Class<IndexOutOfBoundsException> NO_PROP = IndexOutOfBoundsException.class;
    private static final Class<NoSuchElementException> NONE = NoSuchElementException.class;
    private static final int[] NO_CUES = {-1, 10, 256, Integer.MIN_VALUE, Integer.MAX_VALUE};

    private RefusalBoundsTest() {
    }

    public static void main(String[] args) {
        nothingWasRefusedAtFirst();
        exceptionsAreNoRefusals();
        theLatestRefusalIsTold();
        theReasonStays();
        cueNeedsAProp();
        cueNeeds0To9();
        cueNeedsALamp();
        cueNeedsAnUnbrokenLamp();
        cueNeedsAnother();
        cueTellsTheOneBefore();
        cueInItsOrder();
        setNeedsAnother();
        setTellsTheOneBefore();
        theInputStays();
        Check.end();
    }

    private static void nothingWasRefusedAtFirst() {
        Check.begin("promise 32: if nothing was refused");
        for (boolean isDetail : new boolean[] {false, true}) {
            Twins.stay("refusal(" + isDetail + ") at first", Pasts::none, NONE, x -> x.refusal(isDetail));
            Twins.stay("refusal(" + isDetail + ")", Pasts::fullHall, NONE, x -> x.refusal(isDetail));
        }
    }

    private static void exceptionsAreNoRefusals() {
        Check.begin("promise 32: only what is refused for a reason");
        QuakeRehearsal x = new QuakeRehearsal();
        Check.fails("cup(5, 1)", WRONG, () -> x.cup(5, 1));
        Check.fails("take(0)", NO_PROP, () -> x.take(0));
        Check.fails("cue(0, 1)", NO_PROP, () -> x.cue(0, 1));
        Check.fails("set(10)", WRONG, () -> x.set(10));
        Check.fails("add(0)", WRONG, () -> x.add(0));
        Check.fails("programme(0)", NONE, () -> x.programme(0));
        Check.fails("run()", WRONG, () -> x.run());
        Check.fails("run()", WRONG, () -> Check.run(x, "take 0"));
        Check.fails("undo()", IllegalStateException.class, () -> x.undo());
        Check.fails("restore()", IllegalStateException.class, () -> x.restore());
        Check.fails("refusal(false)", NONE, () -> x.refusal(false));
        Check.fails("refusal(true)", NONE, () -> x.refusal(true));
        Check.refuses("set(1)", x, 3, 1, () -> x.set(1));
        Check.fails("cup(5, 1)", WRONG, () -> x.cup(5, 1));
        Check.fails("take(0)", NO_PROP, () -> x.take(0));
        Check.fails("run()", WRONG, () -> Check.run(x, "set 0"));
        Check.same("the reason", "3 1", x.refusal(false) + " " + x.refusal(true));
    }

    private static void theLatestRefusalIsTold() {
        Check.begin("promise 32: the reason of the latest refusal");
        QuakeRehearsal x = new QuakeRehearsal();
        Check.refuses("perform()", x, 5, 0, () -> x.perform());
        Check.refuses("set(1)", x, 3, 1, () -> x.set(1));
        x.cat(4, 1);
        Check.refuses("cue(0, 9)", x, 4, 4, () -> x.cue(0, 9));
        Check.same("the detail may be 0", 0, x.take(0));
        x.cup(0, 1);
        Check.refuses("cue(0, 9)", x, 4, 0, () -> x.cue(0, 9));
        x.lamp(1, 8);
        Check.refuses("cue(1, 0)", x, 3, 0, () -> x.cue(1, 0));
        x.shock();
        x.shock();
        Check.refuses("perform()", x, 5, 2, () -> x.perform());
        Check.same("told again", "5 2", x.refusal(false) + " " + x.refusal(true));
    }

    private static void theReasonStays() {
        Check.begin("the reason is neither undone nor saved, and stays");
        QuakeRehearsal x = new QuakeRehearsal();
        x.lamp(3, 1);
        x.save();
        x.cup(2, 1);
        Check.refuses("cue(1, 1)", x, 4, 2, () -> x.cue(1, 1));
        x.shock();
        x.undo();
        x.undo();
        Check.same("behind undo()", "4 2", x.refusal(false) + " " + x.refusal(true));
        x.restore();
        Check.same("behind restore()", "4 2", x.refusal(false) + " " + x.refusal(true));
        Check.same("behind run()", 1, Check.run(x, "set 7"));
        Check.same("behind run()", "4 2", x.refusal(false) + " " + x.refusal(true));
        Check.fails("run()", WRONG, () -> Check.run(x, "set 77"));
        Check.same("behind an error", "4 2", x.refusal(false) + " " + x.refusal(true));
    }

    private static void cueNeedsAProp() {
        Check.begin("promise 6: if there is no such prop");
        for (int prop : new int[] {-1, 4, 12, 256, Integer.MIN_VALUE, Integer.MAX_VALUE}) {
            for (int strength : new int[] {-1, 0, 4, 9, 10}) {
                Twins.stay("cue(" + prop + ", " + strength + ")", Pasts::busyWithInput, NO_PROP,
                    x -> x.cue(prop, strength));
            }
        }
        Twins.stay("cue(0, 0) at first", Pasts::none, NO_PROP, x -> x.cue(0, 0));
        Twins.stay("cue(12, 1)", Pasts::fullHall, NO_PROP, x -> x.cue(12, 1));
    }

    private static void cueNeeds0To9() {
        Check.begin("promise 6: if the strength is not from 0 to 9");
        for (int strength : NO_CUES) {
            for (int prop = 0; prop < 4; prop++) {
                int told = prop;
                Twins.stay("cue(" + prop + ", " + strength + ")", Pasts::busy, WRONG, x -> x.cue(told, strength));
            }
            Twins.stay("cue of a broken lamp", Pasts::fallenLamp, WRONG, x -> x.cue(0, strength));
        }
    }

    private static void cueNeedsALamp() {
        Check.begin("reason 4: its floor");
        for (int kind = 1; kind <= 3; kind += 2) {
            for (int floor = 0; floor <= 4; floor++) {
                for (int strength = 0; strength <= 9; strength += 3) {
                    int what = kind;
                    int where = floor;
                    int told = strength;
                    Twins.refuse("cue(0, " + strength + ")", x -> Check.place(x, what, where, 3), 4, floor,
                        x -> x.cue(0, told));
                }
            }
        }
        Twins.refuse("cue(0, 4)", Pasts::busyWithInput, 4, 0, x -> x.cue(0, 4));
        Twins.refuse("cue(11, 9)", Pasts::fullHall, 4, 2, x -> x.cue(11, 9));
        Twins.refuse("cue of a broken cup", x -> {
            Pasts.fallenLamp(x);
            x.shock();
        }, 4, 0, x -> x.cue(1, 0));
    }

    private static void cueNeedsAnUnbrokenLamp() {
        Check.begin("reason 6: its swing");
        for (int strength = 0; strength <= 9; strength++) {
            int told = strength;
            Twins.refuse("cue(0, " + strength + ")", Pasts::fallenLamp, 6, 34, x -> x.cue(0, told));
        }
        QuakeRehearsal x = new QuakeRehearsal();
        x.lamp(0, 1);
        for (int i = 0; i < 20; i++) {
            x.shock();
        }
        Check.same("cue(0, 5) at 20", 0, x.cue(0, 5));
        x.shock();
        Check.refuses("cue(0, 6) at 21", x, 6, 21, () -> x.cue(0, 6));
        x.quiet();
        Check.refuses("cue(0, 6) at 21", x, 6, 21, () -> x.cue(0, 6));
        x.undo();
        x.undo();
        Check.same("cue(0, 6) at 20", 5, x.cue(0, 6));
    }

    private static void cueNeedsAnother() {
        Check.begin("reason 3: the number that is told");
        for (int strength = 0; strength <= 9; strength++) {
            int told = strength;
            Twins.refuse("cue(0, " + strength + ") again", x -> {
                x.lamp(2, 5);
                x.cue(0, told == 5 ? 6 : 5);
                x.cue(0, told);
            }, 3, strength, x -> x.cue(0, told));
        }
        Twins.refuse("cue(0, 0) without one", x -> x.lamp(2, 5), 3, 0, x -> x.cue(0, 0));
        Twins.refuse("cue(1, 4) again", Pasts::busyWithInput, 3, 4, x -> x.cue(1, 4));
    }

    private static void cueTellsTheOneBefore() {
        Check.begin("promise 6: the strength for which it was cued, 0 without one");
        QuakeRehearsal x = new QuakeRehearsal();
        x.lamp(0, 1);
        x.lamp(0, 1);
        for (int strength = 1; strength <= 9; strength++) {
            Check.same("cue(1, " + strength + ")", strength - 1, x.cue(1, strength));
            Check.same("propOf(1, 5)", strength, x.propOf(1, 5));
        }
        Check.same("cue(1, 0)", 9, x.cue(1, 0));
        Check.same("propOf(1, 5)", 0, x.propOf(1, 5));
        Check.same("cue(1, 9)", 0, x.cue(1, 9));
        Check.same("the other lamp", 0, x.propOf(0, 5));
        x.undo();
        x.undo();
        Check.same("undone", 9, x.propOf(1, 5));
    }

    private static void cueInItsOrder() {
        Check.begin("reason 4 ahead of 6 ahead of 3");
        QuakeRehearsal x = new QuakeRehearsal();
        Pasts.fallenLamp(x);
        Check.same("cued for", 4, x.propOf(0, 5));
        Check.refuses("a broken lamp that is cued so already", x, 6, 34, () -> x.cue(0, 4));
        Check.refuses("a cup without a cue", x, 4, 0, () -> x.cue(1, 0));
        x.shock();
        Check.same("a broken cup", true, x.isBroken(1));
        Check.refuses("a broken cup without a cue", x, 4, 0, () -> x.cue(1, 0));
        x.lamp(4, 1);
        Check.refuses("a lamp that is cued so already", x, 3, 0, () -> x.cue(2, 0));
    }

    private static void setNeedsAnother() {
        Check.begin("reason 3 of set: the number that is told");
        Twins.refuse("set(1) at first", Pasts::none, 3, 1, x -> x.set(1));
        for (int strength = 2; strength <= 9; strength++) {
            int told = strength;
            Twins.refuse("set(" + strength + ") again", x -> x.set(told), 3, strength, x -> x.set(told));
        }
        Twins.refuse("set(5)", Pasts::busyWithInput, 3, 5, x -> x.set(5));
        QuakeRehearsal x = new QuakeRehearsal();
        x.set(5);
        x.undo();
        Check.refuses("set(1), undone", x, 3, 1, () -> x.set(1));
        Check.same("set(5), undone", 1, x.set(5));
    }

    private static void setTellsTheOneBefore() {
        Check.begin("promise 7: the one before");
        QuakeRehearsal x = new QuakeRehearsal();
        for (int strength = 2; strength <= 9; strength++) {
            Check.same("set(" + strength + ")", strength - 1, x.set(strength));
            Check.same("account(5)", strength, x.account(5));
        }
        Check.same("set(1)", 9, x.set(1));
        Check.same("set(9)", 1, x.set(9));
    }

    private static void theInputStays() {
        Check.begin("the input stays where a call is refused or throws");
        QuakeRehearsal x = new QuakeRehearsal();
        Check.type(x, "set ");
        Check.refuses("set(1)", x, 3, 1, () -> x.set(1));
        Check.fails("set(0)", WRONG, () -> x.set(0));
        Check.fails("undo()", IllegalStateException.class, () -> x.undo());
        x.save();
        x.cat(0, 0);
        x.undo();
        x.restore();
        Check.same("the fifth character", 5, x.append('8'));
        Check.same("run()", 1, x.run());
        Check.same("the strength", 8, x.account(5));
    }
}
