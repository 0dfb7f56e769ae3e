import java.util.NoSuchElementException;

/** What is asked and changes nothing, on both sides of each bound: promises 12, 15 to 24, 33 to 36. */
public final class AskingBoundsTest {
    private static final Class<IllegalArgumentException> WRONG = IllegalArgumentException.class;
    private static final Class<IndexOutOfBoundsException> NO_PROP = IndexOutOfBoundsException.class;
    private static final Class<NoSuchElementException> NONE = NoSuchElementException.class;
    private static final boolean[] WAYS = {false, true};

    private AskingBoundsTest() {
    }

    public static void main(String[] args) {
        propOfNeedsAPropAndANumber();
        propOfTellsEachKind();
        isBrokenAndShocksForNeedAProp();
        wouldBreakAtEachBoundOfACup();
        wouldBreakAtEachBoundOfALamp();
        wouldMarkTellsWhatShockGives();
        programmeBreaksWithEncores();
        programmeBreaksOfNone();
        bestIsTheLeastOfSeveral();
        bestIs1To9();
        leastBreakingIs1To9();
        leastBreakingNeedsOne();
        shocksForCups();
        shocksForLamps();
        shocksForGoesAsAllElse();
        cupsByGradeThenCracksThenNumber();
        lampsBySwingThenLengthThenNumber();
        catsByMarksThenNumber();
        placesOfTheOrders();
        ordersOfOneAndOfTwelve();
        accountsAre0To12();
        accountsOfTheInputAndChanges();
        isWellAtTheBounds();
        meanGradeNeedsACup();
        brokenShareNeedsAProp();
        askingChangesNothing();
        Check.end();
    }

    private static void propOfNeedsAPropAndANumber() {
        Check.begin("promise 12: if there is no such prop, if what is not from 0 to 6");
        for (int prop : new int[] {-1, 4, 12, 256, Integer.MIN_VALUE, Integer.MAX_VALUE}) {
            for (int what : new int[] {-1, 0, 6, 7}) {
                Twins.stay("propOf(" + prop + ", " + what + ")", Pasts::busy, NO_PROP, x -> x.propOf(prop, what));
            }
        }
        for (int what : new int[] {-1, 7, 256, Integer.MIN_VALUE, Integer.MAX_VALUE}) {
            for (int prop = 0; prop < 4; prop++) {
                int told = prop;
                Twins.stay("propOf(" + prop + ", " + what + ")", Pasts::busy, WRONG, x -> x.propOf(told, what));
            }
        }
        Twins.stay("propOf(0, 0) at first", Pasts::none, NO_PROP, x -> x.propOf(0, 0));
        Twins.stay("propOf(12, 7)", Pasts::fullHall, NO_PROP, x -> x.propOf(12, 7));
        Twins.stay("propOf(11, 7)", Pasts::fullHall, WRONG, x -> x.propOf(11, 7));
    }

    private static void propOfTellsEachKind() {
        Check.begin("promise 12: 0 for a cat, 0 for a lamp, 0 otherwise");
        QuakeRehearsal x = new QuakeRehearsal();
        x.cup(4, 8);
        x.lamp(3, 2);
        x.cat(2, 0);
        Check.same("at first", "1,4,8,0,0,0,0;2,3,2,0,0,0,0;3,2,0,0,0,0,0; 3 1 1 1 0 1 0 0 0 0 0", Check.stateOf(x));
        x.cue(1, 9);
        Check.shock(x, 8);
        Check.same("cup", "1,4,8,0,0,0,0", Check.stateOf(x).substring(0, 13));
        Check.shock(x, 9);
        Check.same("state", "1,4,8,0,0,0,1;2,3,2,6,0,9,0;3,2,0,0,0,0,0; 3 1 1 1 0 9 2 0 0 0 0", Check.stateOf(x));
        Check.shock(x, 3);
        Check.same("state", "1,4,8,0,0,0,1;2,3,2,5,0,9,0;3,2,0,0,0,0,4; 3 1 1 1 0 3 3 0 4 0 0", Check.stateOf(x));
    }

    private static void isBrokenAndShocksForNeedAProp() {
        Check.begin("promises 20 and 21: if there is no such prop");
        for (int prop : new int[] {-1, 4, 11, 12, 256, Integer.MIN_VALUE, Integer.MAX_VALUE}) {
            Twins.stay("isBroken(" + prop + ")", Pasts::busyWithInput, NO_PROP, x -> x.isBroken(prop));
            Twins.stay("shocksFor(" + prop + ")", Pasts::busyWithInput, NO_PROP, x -> x.shocksFor(prop));
        }
        for (int prop : new int[] {-1, 12}) {
            Twins.stay("isBroken(" + prop + ") of 12", Pasts::fullHall, NO_PROP, x -> x.isBroken(prop));
            Twins.stay("shocksFor(" + prop + ") of 12", Pasts::fullHall, NO_PROP, x -> x.shocksFor(prop));
        }
        Twins.stay("isBroken(0) at first", Pasts::none, NO_PROP, x -> x.isBroken(0));
        Twins.stay("shocksFor(0) at first", Pasts::none, NO_PROP, x -> x.shocksFor(0));
        QuakeRehearsal x = new QuakeRehearsal();
        Pasts.fullHall(x);
        Check.same("isBroken(11)", false, x.isBroken(11));
        Check.same("shocksFor(0)", 3, x.shocksFor(0));
        Check.same("shocksFor(11)", 0, x.shocksFor(11));
        Check.same("broken 0", true, brokenCup().isBroken(0));
        Check.same("a cat beside it", false, brokenCup().isBroken(1));
    }

    private static QuakeRehearsal brokenCup() {
        QuakeRehearsal x = new QuakeRehearsal();
        x.cup(0, 1);
        x.cat(0, 1);
        x.shock();
        x.shock();
        x.shock();
        return x;
    }

    private static void wouldBreakAtEachBoundOfACup() {
        Check.begin("promise 16, cups: by both ways");
        for (int floor = 0; floor <= 4; floor++) {
            for (int cracks = 0; cracks <= 3; cracks++) {
                QuakeRehearsal x = new QuakeRehearsal();
                x.cup(floor, 5);
                x.set(9);
                for (int i = 0; i < cracks; i++) {
                    x.shock();
                }
                for (int strength = 1; strength <= 9; strength++) {
                    int due = cracks == 2 && strength - floor >= 3 ? 1 : 0;
                    String call = cracks + " cracks on floor " + floor + " by " + strength;
                    Check.same("wouldBreak with " + call, due, x.wouldBreak(strength, false));
                    Check.same("wouldBreak again with " + call, due, x.wouldBreak(strength, true));
                }
            }
        }
    }

    private static void wouldBreakAtEachBoundOfALamp() {
        Check.begin("promise 16, lamps: by both ways");
        for (int swing = 9; swing <= 21; swing++) {
            QuakeRehearsal x = new QuakeRehearsal();
            x.lamp(0, 1);
            for (int i = 0; i < swing; i++) {
                x.shock();
            }
            for (int cue = 0; cue <= 9; cue++) {
                if (cue > 0 && swing <= 20) {
                    x.cue(0, cue);
                }
                for (int strength = cue == 0 ? 1 : 8; strength <= 9; strength++) {
                    int would = swing + (strength == 1 ? 1 : strength + 1);
                    int due = swing <= 20 && would > 20 && (cue == 0 || cue != strength) ? 1 : 0;
                    String call = "the swing " + swing + " by " + strength + ", cued for " + cue;
                    Check.same("wouldBreak with " + call, due, x.wouldBreak(strength, false));
                    Check.same("wouldBreak again with " + call, due, x.wouldBreak(strength, true));
                }
            }
        }
    }

    private static void wouldMarkTellsWhatShockGives() {
        Check.begin("promise 15: the marks that a shock would get");
        QuakeRehearsal x = new QuakeRehearsal();
        x.cat(0, 0);
        x.cat(1, 9);
        x.cup(1, 1);
        x.lamp(0, 8);
        for (int strength = 1; strength <= 9; strength++) {
            for (int other = 1; other <= 9; other++) {
                x.wouldMark(other);
            }
            int due = x.wouldMark(strength);
            Check.same("shock() of " + strength, due, Check.shock(x, strength));
        }
        Check.same("without cats", 0, new QuakeRehearsal().wouldMark(9));
        QuakeRehearsal y = new QuakeRehearsal();
        y.cat(0, 1);
        y.cup(0, 1);
        y.shock();
        y.shock();
        Check.same("of a frightened one", 0, y.wouldMark(1));
        y.shock();
        Check.same("of one that was frightened, and likes 0", 4, y.wouldMark(1));
    }

    private static void programmeBreaksWithEncores() {
        Check.begin("what the programme would break is told with what its encores would");
        QuakeRehearsal x = new QuakeRehearsal();
        x.cat(4, 2);
        x.cup(0, 3);
        x.add(6);
        x.add(5);
        Check.same("6 and 3 and 5", 1, x.programmeBreaks());
        Check.same("again", 1, x.programmeBreaks());
        x.take(0);
        Check.same("6 and 5, without a cat", 0, x.programmeBreaks());
        x.add(2);
        Check.same("6 and 5 and 2, the grade is 1 then", 1, x.programmeBreaks());
        Check.same("the programme", "652", Check.programmeOf(x));
        Check.same("what broke so far", 0, x.account(9));
        x.perform();
        Check.same("what broke so far", 1, x.account(9));

        QuakeRehearsal y = new QuakeRehearsal();
        y.cat(0, 7);
        y.cup(0, 4);
        y.add(4);
        y.add(4);
        y.add(4);
        Check.same("4, 4, 4 and no encore", 1, y.programmeBreaks());
        y.undo();
        Check.same("4, 4 and no encore, of 2 marks", 0, y.programmeBreaks());
        y.undo();
        y.add(5);
        Check.same("4, 5 and the encore 2, of 3 marks", 1, y.programmeBreaks());
    }

    private static void programmeBreaksOfNone() {
        Check.begin("promise 17: of an empty programme, of broken props");
        QuakeRehearsal x = brokenCup();
        Check.same("of an empty programme", 0, x.programmeBreaks());
        for (int i = 0; i < 8; i++) {
            x.add(9);
        }
        Check.same("where all is broken", 0, x.programmeBreaks());
        for (int count = 2; count <= 6; count++) {
            x.cup(count / 4, 1);
            Check.same("of new ones", count - 1, x.programmeBreaks());
        }
        Twins.refuse("perform() behind it", y -> y.programmeBreaks(), 5, 0, y -> y.perform());
    }

    private static void bestIsTheLeastOfSeveral() {
        Check.begin("of several the least");
        QuakeRehearsal x = new QuakeRehearsal();
        Check.same("without cats", 1, x.best());
        x.cat(0, 3);
        x.cat(0, 6);
        Check.same("7 marks by 3, 4, 5 and 6", "7 7 7 7", x.wouldMark(3) + " " + x.wouldMark(4) + " " + x.wouldMark(5)
            + " " + x.wouldMark(6));
        Check.same("5 marks by 2 and 7", "5 5", x.wouldMark(2) + " " + x.wouldMark(7));
        Check.same("best()", 3, x.best());
        x.cat(0, 6);
        Check.same("best() with one more", 6, x.best());
        x.cat(0, 3);
        Check.same("best() with two more", 3, x.best());
        QuakeRehearsal y = new QuakeRehearsal();
        y.cat(4, 0);
        Check.same("5 marks by 1, 2, 3 and 4", 1, y.best());
        y.cat(3, 1);
        Check.same("by the strength 1 on floor 3", 4, y.best());
    }

    private static void bestIs1To9() {
        Check.begin("promise 18: each strength");
        for (int likes = 0; likes <= 9; likes++) {
            QuakeRehearsal x = new QuakeRehearsal();
            x.cat(0, likes);
            Check.same("best() for " + likes, Math.max(1, likes), x.best());
            x.cat(0, likes);
            Check.same("best() for two of " + likes, Math.max(1, likes), x.best());
        }
        QuakeRehearsal y = new QuakeRehearsal();
        y.cat(4, 9);
        Check.same("best() where only 9 is marked", 9, y.best());
        QuakeRehearsal z = new QuakeRehearsal();
        z.cat(0, 9);
        z.cup(0, 9);
        z.set(9);
        z.shock();
        z.shock();
        Check.same("marks, but none where the cup breaks", "1 2 0 0 0", z.wouldMark(5) + " " + z.wouldMark(6) + " "
            + z.wouldMark(7) + " " + z.wouldMark(8) + " " + z.wouldMark(9));
        Check.same("best() below what breaks", 6, z.best());
    }

    private static void leastBreakingIs1To9() {
        Check.begin("promise 19: the least strength by which a shock would break something");
        for (int least = 1; least <= 7; least++) {
            QuakeRehearsal x = twiceCracked(0, least + 2);
            Check.same("leastBreaking()", least, x.leastBreaking());
        }
        Check.same("on floor 1", 7, twiceCracked(1, 8).leastBreaking());
        QuakeRehearsal x = twiceCracked(2, 7);
        Check.same("on floor 2", 7, x.leastBreaking());
        x.cat(0, 0);
        Check.same("above a cat", 8, x.leastBreaking());
        x.cat(1, 0);
        Check.same("above two cats", 9, x.leastBreaking());
        x.cat(2, 0);
        Check.same("with a cat on its floor", 9, x.leastBreaking());
        QuakeRehearsal y = twiceCracked(3, 6);
        y.cat(0, 0);
        y.cat(1, 0);
        Check.same("on floor 3 above two cats", 9, y.leastBreaking());
        y.cat(2, 0);
        Twins.stay("leastBreaking()", z -> cracked(z, 3, 6, 3), NONE, z -> z.leastBreaking());
        Check.fails("leastBreaking() above three cats", NONE, () -> y.leastBreaking());
    }

    /** A cup with two cracks, the grade of which is 2 less. */
    private static QuakeRehearsal twiceCracked(int floor, int grade) {
        QuakeRehearsal x = new QuakeRehearsal();
        cracked(x, floor, grade, 0);
        return x;
    }

    private static void cracked(QuakeRehearsal x, int floor, int grade, int cats) {
        x.cup(floor, grade);
        x.set(9);
        x.shock();
        x.shock();
        Check.same("cracks", 2, x.propOf(0, 3));
        for (int i = 0; i < cats; i++) {
            x.cat(i, 0);
        }
    }

    private static void leastBreakingNeedsOne() {
        Check.begin("promise 19: if none would");
        Twins.stay("leastBreaking() at first", Pasts::none, NONE, x -> x.leastBreaking());
        Twins.stay("leastBreaking() of new ones", Pasts::fullHall, NONE, x -> x.leastBreaking());
        Twins.stay("leastBreaking() of broken ones", x -> {
            x.cup(0, 1);
            x.shock();
            x.shock();
            x.shock();
        }, NONE, x -> x.leastBreaking());
        QuakeRehearsal x = new QuakeRehearsal();
        x.lamp(0, 1);
        for (int i = 0; i < 10; i++) {
            x.shock();
        }
        Check.fails("at 10, by 9 only 20", NONE, () -> x.leastBreaking());
        x.shock();
        Check.same("at 11, by 9 21", 9, x.leastBreaking());
        x.cue(0, 9);
        Check.fails("at 11, cued for 9", NONE, () -> x.leastBreaking());
        x.shock();
        Check.same("at 12, cued for 9", 8, x.leastBreaking());
        x.undo();
        x.undo();
        for (int swing = 12; swing <= 18; swing++) {
            x.shock();
            Check.same("at " + swing, 20 - swing, x.leastBreaking());
        }
    }

    private static void shocksForCups() {
        Check.begin("promise 20, cups: 0 if it is broken, or if not by 30");
        for (int grade = 1; grade <= 9; grade++) {
            for (int strength = 1; strength <= 9; strength++) {
                QuakeRehearsal x = new QuakeRehearsal();
                x.cup(0, grade);
                if (strength > 1) {
                    x.set(strength);
                }
                for (int left = 3; left >= 0; left--) {
                    Check.same("shocksFor the grade " + grade, strength >= grade ? left : 0, x.shocksFor(0));
                    x.shock();
                }
            }
        }
    }

    private static void shocksForLamps() {
        Check.begin("promise 20, lamps: how many, one behind the other");
        for (int strength = 1; strength <= 9; strength++) {
            QuakeRehearsal x = new QuakeRehearsal();
            x.lamp(0, 1);
            if (strength > 1) {
                x.set(strength);
            }
            int left = x.shocksFor(0);
            Check.same("shocksFor by " + strength, 20 / (strength == 1 ? 1 : strength + 1) + 1, left);
            while (left > 0) {
                Check.same("not broken", false, x.isBroken(0));
                x.shock();
                left--;
                Check.same("shocksFor by " + strength, left, x.shocksFor(0));
            }
            Check.same("broken", true, x.isBroken(0));
        }
        QuakeRehearsal y = new QuakeRehearsal();
        y.lamp(0, 8);
        y.lamp(1, 8);
        y.cue(0, 9);
        Check.same("without strength there", 0, y.shocksFor(1));
        y.set(9);
        Check.same("cued", 0, y.shocksFor(0));
        Check.same("not cued", 3, y.shocksFor(1));
        y.cat(0, 0);
        Check.same("a cat", 0, y.shocksFor(2));
        Check.same("above a cat, 8 each time", 3, y.shocksFor(1));
    }

    private static void shocksForGoesAsAllElse() {
        Check.begin("promise 20: the strength to which the machine is set, with all else as it goes");
        QuakeRehearsal x = new QuakeRehearsal();
        x.cup(0, 3);
        x.cup(1, 3);
        Check.same("set to 1", "0 0", x.shocksFor(0) + " " + x.shocksFor(1));
        x.set(2);
        Check.same("set to 2", "0 0", x.shocksFor(0) + " " + x.shocksFor(1));
        x.set(3);
        Check.same("set to 3", "3 0", x.shocksFor(0) + " " + x.shocksFor(1));
        x.set(4);
        Check.same("set to 4", "3 3", x.shocksFor(0) + " " + x.shocksFor(1));
        x.cat(0, 1);
        Check.same("above a cat", "3 0", x.shocksFor(0) + " " + x.shocksFor(1));
        x.add(9);
        Check.same("the programme is left", 1, x.account(10));
        Check.same("shocks so far", 0, x.account(6));
    }

    private static void cupsByGradeThenCracksThenNumber() {
        Check.begin("promise 22: the greatest first, of several the one with fewer cracks, then the lowest");
        QuakeRehearsal x = new QuakeRehearsal();
        x.cup(0, 5);
        x.cup(1, 5);
        x.cup(2, 4);
        x.cup(3, 4);
        x.cup(4, 3);
        x.cup(4, 3);
        x.cat(0, 5);
        Check.same("as they came", "0 1 2 3 4 5", order(x, 1, 6));
        Check.shock(x, 5);
        Check.same("lines", "4 1,5 0,4 0,4 0,3 0,3 0,", gradesAndCracks(x));
        Check.same("one cracked", "1 2 3 0 4 5", order(x, 1, 6));
        x.shock();
        Check.same("lines", "3 2,5 0,4 0,4 0,3 0,3 0,", gradesAndCracks(x));
        Check.same("3 with 2 cracks is behind 3 without", "1 2 3 4 5 0", order(x, 1, 6));
        x.take(6);
        Check.shock(x, 6);
        Check.same("lines", "2 3,4 1,3 1,4 0,3 0,3 0,", gradesAndCracks(x));
        Check.same("a broken one is the last", "3 1 4 5 2 0", order(x, 1, 6));
    }

    private static String gradesAndCracks(QuakeRehearsal x) {
        StringBuilder text = new StringBuilder();
        for (int i = 0; i < 6; i++) {
            text.append(x.propOf(i, 2)).append(' ').append(x.propOf(i, 3)).append(',');
        }
        return text.toString();
    }

    private static String order(QuakeRehearsal x, int kind, int count) {
        StringBuilder text = new StringBuilder();
        for (int place = 0; place < count; place++) {
            text.append(place == 0 ? "" : " ").append(at(x, kind, place));
        }
        return text.toString();
    }

    private static void lampsBySwingThenLengthThenNumber() {
        Check.begin("promise 23: the most first, of several the longer one, then the lowest");
        QuakeRehearsal x = new QuakeRehearsal();
        x.cup(0, 9);
        x.lamp(0, 4);
        x.lamp(0, 6);
        x.lamp(0, 4);
        x.lamp(0, 9);
        x.lamp(1, 6);
        Check.same("without swing, the longer first", "4 2 5 1 3", order(x, 2, 5));
        Check.shock(x, 2);
        Check.same("swings", "2 2 2 3 1", x.propOf(1, 3) + " " + x.propOf(2, 3) + " " + x.propOf(3, 3) + " "
            + x.propOf(4, 3) + " " + x.propOf(5, 3));
        Check.same("by swing", "4 2 1 3 5", order(x, 2, 5));
        x.take(1);
        Check.same("with one gone", "3 1 2 4", order(x, 2, 4));
        x.quiet();
        Check.same("1, 1, 1 and 0", "3 1 2 4", order(x, 2, 4));
        x.quiet();
        Check.same("0, and the longer first", "3 1 4 2", order(x, 2, 4));
        Check.shock(x, 9);
        x.shock();
        Check.same("30, 28, 26 fell, 18", "1 4 2 3", order(x, 2, 4));
    }

    private static void catsByMarksThenNumber() {
        Check.begin("promise 24: the most first, of several the lowest");
        QuakeRehearsal x = new QuakeRehearsal();
        x.cat(0, 9);
        x.cat(0, 1);
        x.cat(0, 2);
        x.lamp(0, 1);
        x.cat(0, 1);
        Check.same("without marks", "0 1 2 4", order(x, 3, 4));
        x.shock();
        Check.same("0, 5, 4 and 5", "1 4 2 0", order(x, 3, 4));
        Check.shock(x, 2);
        Check.same("0, 9, 9 and 9", "1 2 4 0", order(x, 3, 4));
        x.take(1);
        Check.same("with one gone", "1 3 0", order(x, 3, 3));
        x.shock();
        Check.same("0, 14 and 13", "1 3 0", order(x, 3, 3));
    }

    private static void placesOfTheOrders() {
        Check.begin("promises 22 to 24: if there is no such place");
        for (int place : new int[] {-1, 0, 1, 12, Integer.MIN_VALUE, Integer.MAX_VALUE}) {
            checkNoPlace(place, place, place, Pasts::none);
        }
        for (int far : new int[] {-1, 12, 256, Integer.MIN_VALUE, Integer.MAX_VALUE}) {
            checkNoPlace(far, far, far, Pasts::fullHall);
        }
        checkNoPlace(5, 5, 2, Pasts::fullHall);
        checkNoPlace(2, 1, 1, Pasts::busyWithInput);
        QuakeRehearsal x = new QuakeRehearsal();
        Pasts.fullHall(x);
        Check.same("cups", "8 6 4 2 0", order(x, 1, 5));
        Check.same("lamps", "1 3 5 7 9", order(x, 2, 5));
        Check.same("cats", "10 11", order(x, 3, 2));
    }

    private static void ordersOfOneAndOfTwelve() {
        Check.begin("promises 22 to 24: the last place, and the one behind it");
        for (int kind = 1; kind <= 3; kind++) {
            QuakeRehearsal x = new QuakeRehearsal();
            for (int count = 1; count <= 12; count++) {
                Check.place(x, kind, count % 5, 4);
                Check.same("the last of " + count, count - 1, at(x, kind, count - 1));
                int what = kind;
                int behind = count;
                Check.fails("the one behind it", NONE, () -> at(x, what, behind));
            }
            Check.same("all alike, by their numbers", "0 1 2 3 4 5 6 7 8 9 10 11", order(x, kind, 12));
            int other = kind % 3 + 1;
            Check.fails("another kind", NONE, () -> at(x, other, 0));
        }
    }

    private static int at(QuakeRehearsal x, int kind, int place) {
        return kind == 1 ? x.cupAt(place) : kind == 2 ? x.lampAt(place) : x.catAt(place);
    }

    private static void checkNoPlace(int cup, int lamp, int cat, Twins.Act past) {
        Twins.stay("cupAt(" + cup + ")", past, NONE, x -> x.cupAt(cup));
        Twins.stay("lampAt(" + lamp + ")", past, NONE, x -> x.lampAt(lamp));
        Twins.stay("catAt(" + cat + ")", past, NONE, x -> x.catAt(cat));
    }

    private static void accountsAre0To12() {
        Check.begin("promise 33: if what is not from 0 to 12");
        for (int what : new int[] {-1, 13, 256, Integer.MIN_VALUE, Integer.MAX_VALUE}) {
            Twins.stay("account(" + what + ")", Pasts::busyWithInput, WRONG, x -> x.account(what));
            Twins.stay("account(" + what + ") at first", Pasts::none, WRONG, x -> x.account(what));
        }
        QuakeRehearsal x = new QuakeRehearsal();
        Pasts.busyWithInput(x);
        StringBuilder accounts = new StringBuilder();
        for (int what = 0; what <= 12; what++) {
            accounts.append(x.account(what)).append(' ');
        }
        Check.same("accounts", "4 2 1 1 0 5 5 2 17 0 1 5 8 ", accounts.toString());
    }

    private static void accountsOfTheInputAndChanges() {
        Check.begin("promise 33: 0 to 60 characters, 0 to 8 changes, 0 to 12 props");
        QuakeRehearsal x = new QuakeRehearsal();
        for (int i = 0; i < 60; i++) {
            Check.same("account(11)", i, x.account(11));
            x.append(' ');
        }
        Check.same("account(11)", 60, x.account(11));
        Check.fails("the 61st", IllegalStateException.class, () -> x.append(' '));
        Check.same("account(11)", 60, x.account(11));
        for (int i = 0; i < 12; i++) {
            Check.same("account(12)", Math.min(8, i), x.account(12));
            Check.same("account(0)", i, x.account(0));
            x.cat(i / 5, 0);
        }
        Check.same("account(12)", 8, x.account(12));
        Check.same("account(0), (1), (2), (3)", "12 0 0 12", x.account(0) + " " + x.account(1) + " " + x.account(2) + " "
            + x.account(3));
    }

    private static void isWellAtTheBounds() {
        Check.begin("promise 34: a cup is broken just if it has 3 cracks, and a lamp just if it swings by more than 20");
        QuakeRehearsal x = new QuakeRehearsal();
        x.lamp(0, 1);
        x.lamp(4, 1);
        x.cat(3, 0);
        x.cup(0, 1);
        x.cup(0, 9);
        x.cue(0, 9);
        for (int shocks = 0; shocks <= 22; shocks++) {
            Check.same("behind " + shocks + " shocks", true, x.isWell());
            x.shock();
        }
        Check.same("what broke", 2, x.account(9));
        for (int strength = 9; strength >= 2; strength--) {
            Check.shock(x, strength);
            Check.same("behind one of " + strength, true, x.isWell());
        }
        x.quiet();
        Check.same("behind quiet()", true, x.isWell());
        Check.same("at first", true, new QuakeRehearsal().isWell());
    }

    private static void meanGradeNeedsACup() {
        Check.begin("promise 35: if there are none");
        Twins.stay("meanGrade() at first", Pasts::none, ArithmeticException.class, x -> x.meanGrade());
        Twins.stay("meanGrade() without cups", x -> {
            x.cat(0, 4);
            x.lamp(0, 4);
        }, ArithmeticException.class, x -> x.meanGrade());
        QuakeRehearsal x = new QuakeRehearsal();
        x.cat(0, 4);
        x.cup(0, 9);
        Check.same("of one", 9.0, x.meanGrade());
        for (int i = 1; i < 5; i++) {
            x.cup(0, 8);
            Check.same("of " + (i + 1), (double) (9 + 8 * i) / (double) (1 + i), x.meanGrade());
        }
        x.cup(1, 1);
        x.cup(1, 1);
        Check.same("of seven, in doubles", 43.0 / 7.0, x.meanGrade());
        x.take(1);
        Check.same("of six", 34.0 / 6.0, x.meanGrade());
        QuakeRehearsal y = brokenCup();
        Check.same("of a broken one", 1.0, y.meanGrade());
        y.take(0);
        Check.fails("with it gone", ArithmeticException.class, () -> y.meanGrade());
    }

    private static void brokenShareNeedsAProp() {
        Check.begin("promise 36: if there are none");
        Twins.stay("brokenShare() at first", Pasts::none, ArithmeticException.class, x -> x.brokenShare());
        QuakeRehearsal x = brokenCup();
        Check.same("one of two", 0.5f, x.brokenShare());
        x.cat(0, 1);
        Check.same("one of three, in floats", 1.0f / 3.0f, x.brokenShare());
        for (int i = 4; i <= 12; i++) {
            x.lamp(i % 5, 1);
            Check.same("one of " + i, 1.0f / (float) i, x.brokenShare());
        }
        x.take(0);
        Check.same("none of 11", 0.0f, x.brokenShare());
        for (int i = 0; i < 11; i++) {
            x.take(0);
        }
        Check.fails("of none", ArithmeticException.class, () -> x.brokenShare());
        QuakeRehearsal y = brokenCup();
        y.take(1);
        Check.same("all", 1.0f, y.brokenShare());
    }

    private static void askingChangesNothing() {
        Check.begin("what is asked changes nothing");
        QuakeRehearsal x = new QuakeRehearsal();
        QuakeRehearsal twin = new QuakeRehearsal();
        Pasts.busyWithInput(x);
        Pasts.busyWithInput(twin);
        for (int strength = 1; strength <= 9; strength++) {
            x.wouldMark(strength);
            for (boolean isAgain : WAYS) {
                x.wouldBreak(strength, isAgain);
                x.on(strength, strength % 5, isAgain);
            }
        }
        x.programmeBreaks();
        x.best();
        for (int prop = 0; prop < 4; prop++) {
            x.shocksFor(prop);
        }
        x.isWell();
        x.cupAt(0);
        x.lampAt(0);
        x.catAt(0);
        x.meanGrade();
        x.brokenShare();
        Check.same("state", Check.stateOf(twin), Check.stateOf(x));
        Check.same("changes", 8, x.account(12));
        Check.same("refusal", twin.refusal(false) + " " + twin.refusal(true), x.refusal(false) + " " + x.refusal(true));
        Check.same("the line", twin.character(1) + "" + twin.character(5), x.character(1) + "" + x.character(5));
        Check.same("run() of the input", 1, x.run());
        Check.same("the strength", 6, x.account(5));
    }
}
