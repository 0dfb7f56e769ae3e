import java.util.NoSuchElementException;

/** Promises 14 to 21: what shocks do. */
public final class ShocksTest {
    private static final Class<IllegalArgumentException> WRONG = IllegalArgumentException.class;
    private static final Class<IndexOutOfBoundsException> NO_PROP = IndexOutOfBoundsException.class;
    private static final int[] NO_STRENGTHS = {0, -1, 10, Integer.MIN_VALUE, Integer.MAX_VALUE};
    private static final boolean[] WAYS = {false, true};

    private ShocksTest() {
    }

    public static void main(String[] args) {
        on();
        wouldMark();
        wouldBreak();
        programmeBreaks();
        best();
        leastBreaking();
        shocksFor();
        isBroken();
        thoughtsChangeNothing();
        Check.end();
    }

    private static void on() {
        Check.begin("promise 14");
        QuakeRehearsal x = new QuakeRehearsal();
        for (boolean isAgain : WAYS) {
            Check.same("without cats", "98765", onAll(x, 9, isAgain));
            Check.same("not below 0", "21000", onAll(x, 2, isAgain));
        }
        x.cup(2, 5);
        x.lamp(3, 5);
        x.cat(1, 5);
        x.cat(1, 6);
        x.cat(4, 0);
        for (boolean isAgain : WAYS) {
            Check.same("with cats, once a floor", "98654", onAll(x, 9, isAgain));
            Check.same("not below 0", "21000", onAll(x, 2, isAgain));
        }
        x.cat(0, 5);
        x.cat(2, 5);
        x.cat(3, 5);
        for (boolean isAgain : WAYS) {
            Check.same("with cats on all floors", "97531", onAll(x, 9, isAgain));
            Check.same("not below 0", "53100", onAll(x, 5, isAgain));
            Check.same("not below 0", "10000", onAll(x, 1, isAgain));
        }
        x.take(2);
        x.take(2);
        for (boolean isAgain : WAYS) {
            Check.same("cats on the floors 0, 2 and 3", "97642", onAll(x, 9, isAgain));
        }
        checkWrongOn(x);
    }

    private static String onAll(QuakeRehearsal x, int strength, boolean isAgain) {
        StringBuilder text = new StringBuilder();
        for (int floor = 0; floor <= 4; floor++) {
            text.append(x.on(strength, floor, isAgain));
        }
        return text.toString();
    }

    private static void checkWrongOn(QuakeRehearsal x) {
        for (boolean isAgain : WAYS) {
            for (int strength : NO_STRENGTHS) {
                Check.fails("on(" + strength + ", 0)", WRONG, () -> x.on(strength, 0, isAgain));
            }
            for (int floor : new int[] {-1, 5, Integer.MIN_VALUE, Integer.MAX_VALUE}) {
                Check.fails("on(1, " + floor + ")", WRONG, () -> x.on(1, floor, isAgain));
            }
        }
    }

    private static void wouldMark() {
        Check.begin("promise 15");
        QuakeRehearsal x = new QuakeRehearsal();
        Check.same("wouldMark(5) without cats", 0, x.wouldMark(5));
        x.cat(0, 4);
        x.cat(1, 2);
        Check.same("wouldMark(4)", 5 + 5, x.wouldMark(4));
        Check.same("wouldMark(1)", 2 + 3, x.wouldMark(1));
        Check.same("wouldMark(9)", 0 + 0, x.wouldMark(9));
        x.cup(0, 1);
        x.set(4);
        x.shock();
        x.shock();
        Check.same("wouldMark(4) where a cup breaks", 0 + 5, x.wouldMark(4));
        Check.same("the same again", 0 + 5, x.wouldMark(4));
        for (int strength : NO_STRENGTHS) {
            Check.fails("wouldMark(" + strength + ")", WRONG, () -> x.wouldMark(strength));
        }
    }

    private static void wouldBreak() {
        Check.begin("promise 16");
        QuakeRehearsal x = new QuakeRehearsal();
        x.cup(0, 3);
        x.cup(1, 9);
        x.lamp(0, 8);
        x.lamp(1, 9);
        x.cat(0, 0);
        x.set(9);
        x.shock();
        x.set(2);
        x.shock();
        Check.same("state", "1,0,1,2,0,0,0;1,1,9,0,0,0,1;2,0,8,19,0,0,0;2,1,9,8,0,0,0;3,0,0,0,0,0,3;"
            + " 5 2 2 1 0 2 2 0 3 0 0", Check.stateOf(x));
        int[] due = {1, 2, 2, 2, 2, 2, 2, 2, 2};
        for (int strength = 1; strength <= 9; strength++) {
            for (boolean isAgain : WAYS) {
                String call = "wouldBreak(" + strength + ", " + isAgain + ")";
                Check.same(call, due[strength - 1], x.wouldBreak(strength, isAgain));
            }
        }
        x.cue(2, 9);
        for (boolean isAgain : WAYS) {
            Check.same("a cued lamp does not fall", 1, x.wouldBreak(9, isAgain));
            Check.same("but by another strength", 2, x.wouldBreak(8, isAgain));
        }
        x.set(8);
        x.shock();
        for (boolean isAgain : WAYS) {
            Check.same("what is broken breaks no more", 0, x.wouldBreak(1, isAgain));
            Check.same("but the other lamp by 5 and 9 by 5", 1, x.wouldBreak(7, isAgain));
            for (int strength : NO_STRENGTHS) {
                Check.fails("wouldBreak(" + strength + ")", WRONG, () -> x.wouldBreak(strength, isAgain));
            }
        }
    }

    private static void programmeBreaks() {
        Check.begin("promise 17");
        QuakeRehearsal x = new QuakeRehearsal();
        Check.same("of an empty programme", 0, x.programmeBreaks());
        x.cup(0, 1);
        x.cup(0, 4);
        x.add(4);
        x.add(2);
        Check.same("two shocks do not break", 0, x.programmeBreaks());
        x.add(1);
        Check.same("the third breaks one", 1, x.programmeBreaks());
        x.take(1);
        x.cat(0, 3);
        x.take(0);
        x.cup(0, 1);
        Check.same("with encores, as far as the cat likes", 1, x.programmeBreaks());
        x.perform();
        Check.same("as it went then", 1, x.account(9));
        Check.same("with encores", 1, x.account(7));

        QuakeRehearsal y = new QuakeRehearsal();
        y.cat(0, 4);
        y.cup(0, 2);
        y.add(4);
        y.add(5);
        Check.same("by the encore of the second", 1, y.programmeBreaks());
        y.take(0);
        Check.same("without it", 0, y.programmeBreaks());
        Check.same("the programme stays", "45", Check.programmeOf(y));
        y.set(9);
        y.shock();
        y.shock();
        y.shock();
        Check.same("what broke so far", 1, y.account(9));
        y.cup(4, 1);
        y.add(9);
        y.add(9);
        Check.same("what is broken does not count", 1, y.programmeBreaks());
    }

    private static void best() {
        Check.begin("promise 18");
        QuakeRehearsal x = new QuakeRehearsal();
        Check.same("best() without cats", 1, x.best());
        x.cat(0, 9);
        Check.same("best() for 9", 9, x.best());
        x.cat(0, 5);
        Check.same("best() of several", 5, x.best());
        x.cat(4, 0);
        Check.same("best() with the top", 5, x.best());
        x.cup(0, 1);
        x.shock();
        x.shock();
        Check.same("best() where all on a floor are frightened", 1, x.best());
    }

    private static void leastBreaking() {
        Check.begin("promise 19");
        QuakeRehearsal x = new QuakeRehearsal();
        Check.fails("leastBreaking()", NoSuchElementException.class, () -> x.leastBreaking());
        x.cup(2, 7);
        x.set(9);
        x.shock();
        Check.fails("leastBreaking() with one crack", NoSuchElementException.class, () -> x.leastBreaking());
        x.shock();
        Check.same("for the grade 5 on floor 2", 7, x.leastBreaking());
        x.cat(0, 0);
        Check.same("above a cat", 8, x.leastBreaking());
        x.cat(1, 0);
        Check.same("above two cats", 9, x.leastBreaking());
        x.take(0);
        Check.fails("leastBreaking() of cats", NoSuchElementException.class, () -> x.leastBreaking());

        QuakeRehearsal y = new QuakeRehearsal();
        y.lamp(0, 1);
        y.set(9);
        y.shock();
        Check.fails("leastBreaking() for the swing 10", NoSuchElementException.class, () -> y.leastBreaking());
        y.shock();
        Check.same("for the swing 20", 1, y.leastBreaking());
        for (boolean isAgain : WAYS) {
            Check.same("wouldBreak(1) for the swing 20", 1, y.wouldBreak(1, isAgain));
        }
        y.cue(0, 1);
        Check.same("for the swing 20, cued for 1", 2, y.leastBreaking());
        Check.same("isWell() for the swing 20", true, y.isWell());
    }

    private static void shocksFor() {
        Check.begin("promise 20");
        QuakeRehearsal x = new QuakeRehearsal();
        Check.fails("shocksFor(0)", NO_PROP, () -> x.shocksFor(0));
        x.cup(0, 3);
        x.cup(0, 4);
        x.lamp(0, 1);
        x.lamp(1, 1);
        x.cat(4, 3);
        x.set(3);
        Check.same("a cup", 3, x.shocksFor(0));
        Check.same("a cup that only rattles", 0, x.shocksFor(1));
        Check.same("a lamp, 4 each time", 6, x.shocksFor(2));
        Check.same("a lamp, 3 each time", 7, x.shocksFor(3));
        Check.same("a cat", 0, x.shocksFor(4));
        x.cue(2, 3);
        Check.same("a cued lamp", 0, x.shocksFor(2));
        x.set(2);
        Check.same("a lamp, 1 each time", 21, x.shocksFor(3));
        x.set(3);
        x.shock();
        Check.same("a cracked cup", 2, x.shocksFor(0));
        x.shock();
        x.shock();
        Check.same("a broken cup", 0, x.shocksFor(0));
        for (int prop : new int[] {-1, 5, Integer.MIN_VALUE, Integer.MAX_VALUE}) {
            Check.fails("shocksFor(" + prop + ")", NO_PROP, () -> x.shocksFor(prop));
        }
    }

    private static void isBroken() {
        Check.begin("promise 21");
        QuakeRehearsal x = new QuakeRehearsal();
        Check.fails("isBroken(0)", NO_PROP, () -> x.isBroken(0));
        x.cup(0, 1);
        x.lamp(0, 8);
        x.cat(0, 0);
        x.set(9);
        Check.same("a cup", false, x.isBroken(0));
        x.shock();
        x.shock();
        Check.same("a cup with 2 cracks", false, x.isBroken(0));
        Check.same("a lamp that fell", true, x.isBroken(1));
        x.shock();
        Check.same("a cup with 3 cracks", true, x.isBroken(0));
        Check.same("a cat", false, x.isBroken(2));
        Check.fails("isBroken(-1)", NO_PROP, () -> x.isBroken(-1));
        Check.fails("isBroken(3)", NO_PROP, () -> x.isBroken(3));
    }

    private static void thoughtsChangeNothing() {
        Check.begin("promises 14 to 21, in thought alone");
        QuakeRehearsal x = new QuakeRehearsal();
        x.cup(0, 3);
        x.lamp(1, 7);
        x.cat(0, 5);
        x.add(9);
        x.add(5);
        x.set(5);
        x.shock();
        String before = Check.stateOf(x);
        x.on(9, 4, false);
        x.wouldMark(9);
        x.wouldBreak(9, false);
        x.wouldBreak(9, true);
        x.programmeBreaks();
        x.best();
        x.shocksFor(0);
        x.isWell();
        Check.fails("leastBreaking()", NoSuchElementException.class, () -> x.leastBreaking());
        Check.same("state", before, Check.stateOf(x));
        Check.same("changes", 7, x.account(12));
    }
}
