/** "Cats", "Performing", "Programme" and "Quiet" in the document, on both sides of each bound. */
public final class PerformingBoundsTest {
    private static final Class<IllegalArgumentException> WRONG = IllegalArgumentException.class;

    private PerformingBoundsTest() {
    }

    public static void main(String[] args) {
        aCatGives5LessTheDifference();
        aCatMarksTheStrengthOnItsFloor();
        aFrightenedCatGivesNone();
        aFrightenedCatLikesNotBelow0();
        aCatLikes1LessOnceAShock();
        onlyBreakingFrightens();
        onlyOnTheFloorOfTheBreaking();
        catsGiveMarksLast();
        whatWasBrokenBreaksNoMore();
        marksAreThoseOfAllCats();
        aShockHasNoEncore();
        aProgrammeHasEightShocks();
        aProgrammeOfOneAndOfEight();
        theFirstShockIsTheFirst();
        anEmptyProgrammeIsRefused();
        encoresNeed3MarksForEachCat();
        encoresNeedACat();
        encoresHaveHalfTheStrength();
        behindAnEncoreComesNone();
        anEncoreComesBehindItsShock();
        encoresMeetCues();
        placesOfTheProgramme();
        quietHalvesSwings();
        quietLeavesTheRest();
        Check.end();
    }

    private static void aCatGives5LessTheDifference() {
        Check.begin("5 marks less the difference, but not below 0");
        int[] due = {5, 4, 3, 2, 1, 0, 0, 0, 0, 0};
        for (int likes = 0; likes <= 9; likes++) {
            for (int strength = 1; strength <= 9; strength++) {
                QuakeRehearsal x = new QuakeRehearsal();
                x.cat(0, likes);
                int marks = due[likes > strength ? likes - strength : strength - likes];
                String call = "a cat that likes " + likes + " by " + strength;
                Check.same("wouldMark of " + call, marks, x.wouldMark(strength));
                Check.same(call, marks, Check.shock(x, strength));
                Check.same("marks so far of " + call, marks + " " + marks, x.propOf(0, 6) + " " + x.account(8));
                Check.same("what it likes stays", likes, x.propOf(0, 2));
                Check.same(call + " again", marks, x.shock());
                Check.same("marks so far of " + call, 2 * marks + " " + 2 * marks, x.propOf(0, 6) + " " + x.account(8));
            }
        }
    }

    private static void aCatMarksTheStrengthOnItsFloor() {
        Check.begin("the difference between what it likes and the strength on its floor");
        for (int floor = 0; floor <= 4; floor++) {
            QuakeRehearsal x = new QuakeRehearsal();
            x.cat(floor, 0);
            Check.same("without strength, what it likes, or 1", floor == 0 ? 4 : 5, Check.shock(x, 1));
            Check.same("a difference of 4", 1, Check.shock(x, 4 + floor));
            Check.same("a difference of 5", 0, Check.shock(x, 5 + floor));
        }
        QuakeRehearsal x = new QuakeRehearsal();
        x.cat(0, 9);
        x.cat(1, 9);
        Check.same("9, and 7 above a cat", 5 + 3, Check.shock(x, 9));
        Check.same("5, and 3 above a cat", 1 + 0, Check.shock(x, 5));
        Check.same("4, and 2 above a cat", 0 + 0, Check.shock(x, 4));
    }

    /** A cat that likes so much on floor 0, ahead of a cup that broke by the third shock of 1. */
    private static QuakeRehearsal frightened(int likes) {
        QuakeRehearsal x = new QuakeRehearsal();
        x.cat(0, likes);
        x.cup(0, 1);
        x.shock();
        x.shock();
        Check.same("what it likes ahead of the breaking", likes, x.propOf(0, 2));
        Check.same("shock()", 0, x.shock());
        return x;
    }

    private static void aFrightenedCatGivesNone() {
        Check.begin("a cat on whose floor something breaks gives it none, and likes 1 less then");
        for (int likes = 0; likes <= 9; likes++) {
            QuakeRehearsal x = frightened(likes);
            int each = Math.max(0, 5 - Math.abs(likes - 1));
            int then = Math.max(0, likes - 1);
            Check.same("what it likes then", then, x.propOf(0, 2));
            Check.same("its marks so far", 2 * each, x.propOf(0, 6));
            Check.same("the marks so far", 2 * each, x.account(8));
            Check.same("the next shock is marked again", Math.max(0, 5 - Math.abs(then - 1)), x.shock());
            Check.same("what it likes stays", then, x.propOf(0, 2));
        }
    }

    private static void aFrightenedCatLikesNotBelow0() {
        Check.begin("likes 1 less, but not below 0");
        QuakeRehearsal x = new QuakeRehearsal();
        x.cat(0, 2);
        x.cup(0, 1);
        x.shock();
        x.cup(0, 1);
        x.shock();
        x.cup(0, 1);
        int[] due = {1, 0, 0};
        for (int i = 0; i < 3; i++) {
            Check.same("shock()", 0, x.shock());
            Check.same("what it likes", due[i], x.propOf(0, 2));
            Check.same("what broke so far", i + 1, x.account(9));
        }
        Check.same("the line", "k0:0", Check.lineOf(x, 0));
    }

    private static void aCatLikes1LessOnceAShock() {
        Check.begin("a cat likes 1 less, however much breaks on its floor");
        QuakeRehearsal x = new QuakeRehearsal();
        x.cat(0, 8);
        x.cat(0, 3);
        x.cup(0, 1);
        x.cup(0, 2);
        x.lamp(0, 9);
        x.lamp(0, 9);
        Check.shock(x, 9);
        x.shock();
        Check.same("what would break by the third", 4, x.wouldBreak(9, false));
        x.shock();
        Check.same("what broke by the third", 4, x.account(9));
        Check.same("what they like", "7 2", x.propOf(0, 2) + " " + x.propOf(1, 2));
    }

    private static void onlyBreakingFrightens() {
        Check.begin("rattling, cracking and swinging do not frighten");
        QuakeRehearsal x = new QuakeRehearsal();
        x.cat(0, 5);
        x.cup(0, 5);
        x.cup(0, 9);
        x.lamp(0, 5);
        Check.same("the first crack", 5, Check.shock(x, 5));
        Check.same("the second crack", 5, x.shock());
        Check.same("state", "3,0,5,0,0,0,10;1,0,3,2,0,0,0;1,0,9,0,0,0,2;2,0,5,10,0,0,0; 4 2 1 1 0 5 2 0 10 0 0",
            Check.stateOf(x));
        Check.same("the third crack", 0, x.shock());
        Check.same("what it likes", 4, x.propOf(0, 2));
        Check.same("the lamp at 20", 4, x.shock());
        Check.same("the lamp at 25", 0, x.shock());
        Check.same("what it likes", 3, x.propOf(0, 2));
        Check.same("nothing breaks", 3, x.shock());
    }

    private static void onlyOnTheFloorOfTheBreaking() {
        Check.begin("a cat on whose floor something breaks");
        for (int floor = 0; floor <= 4; floor++) {
            QuakeRehearsal x = new QuakeRehearsal();
            for (int i = 0; i <= 4; i++) {
                x.cat(i, 5);
            }
            x.lamp(floor, 1);
            int here = x.on(9, floor, false);
            int shocks = 20 / (here == 1 ? 1 : here + 1);
            x.set(9);
            for (int i = 0; i < shocks; i++) {
                x.shock();
            }
            Check.same("the lamp hangs", false, x.isBroken(5));
            int all = x.wouldMark(9);
            Check.same("5 for each but " + floor, all, x.shock());
            Check.same("the lamp fell", true, x.isBroken(5));
            for (int i = 0; i <= 4; i++) {
                Check.same("what the cat on " + i + " likes", i == floor ? 4 : 5, x.propOf(i, 2));
                int each = Math.max(0, 5 - Math.abs(5 - x.on(9, i, false)));
                Check.same("what it gave", (i == floor ? shocks : shocks + 1) * each, x.propOf(i, 6));
            }
        }
    }

    private static void catsGiveMarksLast() {
        Check.begin("first all cups are shaken, then all lamps, then all cats give marks");
        QuakeRehearsal x = new QuakeRehearsal();
        x.cat(0, 4);
        x.lamp(0, 1);
        x.cat(0, 4);
        x.cup(1, 1);
        x.cat(1, 4);
        x.cat(0, 4);
        Check.shock(x, 3);
        x.shock();
        Check.same("by the third a cup breaks", 4 + 4 + 0 + 4, x.shock());
        x.shock();
        x.shock();
        Check.same("by the sixth a lamp falls", 0 + 0 + 1 + 0, Check.shock(x, 9));
        Check.same("what they like", "3 3 3 3", x.propOf(0, 2) + " " + x.propOf(2, 2) + " " + x.propOf(4, 2) + " "
            + x.propOf(5, 2));
    }

    private static void whatWasBrokenBreaksNoMore() {
        Check.begin("what breaks by it are the cups and lamps that are broken by it and were not");
        QuakeRehearsal x = frightened(5);
        Check.same("what broke so far", 1, x.account(9));
        Check.same("shock() where all is broken", 2, x.shock());
        Check.same("what it likes", 4, x.propOf(0, 2));
        Check.same("what broke so far", 1, x.account(9));
        x.take(1);
        Check.same("what broke so far, with the broken one gone", 1, x.account(9));
        Check.same("broken props", 0, x.account(4));
        x.cup(0, 1);
        x.shock();
        x.shock();
        Check.same("shock() by which the new one breaks", 0, x.shock());
        Check.same("what broke so far", 2, x.account(9));
        Check.same("broken props", 1, x.account(4));
    }

    private static void marksAreThoseOfAllCats() {
        Check.begin("its marks are those of all cats together");
        QuakeRehearsal x = new QuakeRehearsal();
        Check.same("without cats", 0, x.shock());
        for (int i = 1; i <= 5; i++) {
            x.cat(0, 1);
            Check.same("with " + i + " cats", 5 * i, x.shock());
        }
        Check.same("marks so far", 75, x.account(8));
        x.take(4);
        Check.same("with one gone", 20, x.shock());
        Check.same("marks so far, its own included", 95, x.account(8));
        Check.same("shocks so far", 7, x.account(6));
    }

    private static void aShockHasNoEncore() {
        Check.begin("promise 8: without an encore");
        QuakeRehearsal x = new QuakeRehearsal();
        x.cat(0, 9);
        x.cup(0, 4);
        Check.same("shock()", 5, Check.shock(x, 9));
        Check.same("shocks, encores", "1 0", x.account(6) + " " + x.account(7));
        Check.same("one crack", 1, x.propOf(1, 3));
        Check.same("wouldBreak has none", 0, x.wouldBreak(9, false));
        x.shock();
        x.add(1);
        Check.same("it leaves the programme", 0, Check.shock(x, 2));
        Check.same("the programme", "1", Check.programmeOf(x));
        QuakeRehearsal y = new QuakeRehearsal();
        y.cat(0, 9);
        y.cup(0, 4);
        y.set(9);
        Check.same("shocksFor has none", 3, y.shocksFor(1));
    }

    private static void aProgrammeHasEightShocks() {
        Check.begin("the programme has at most 8 shocks");
        QuakeRehearsal x = new QuakeRehearsal();
        for (int i = 1; i <= 8; i++) {
            Check.same("add(" + i + ")", i, x.add(i));
            Check.same("in the programme", i, x.account(10));
        }
        Check.refuses("the ninth", x, 1, 8, () -> x.add(9));
        Twins.refuse("the ninth", Pasts::fullProgramme, 1, 8, y -> y.add(1));
        Twins.stay("the ninth, wrong", Pasts::fullProgramme, WRONG, y -> y.add(0));
        Twins.stay("the ninth, wrong", Pasts::fullProgramme, WRONG, y -> y.add(10));
        Check.same("the programme", "12345678", Check.programmeOf(x));
        x.undo();
        Check.same("the eighth again", 8, x.add(9));
        Check.same("the programme", "12345679", Check.programmeOf(x));
        x.perform();
        Check.same("the first again", 1, x.add(5));
    }

    private static void aProgrammeOfOneAndOfEight() {
        Check.begin("to perform it means to perform its shocks, which are taken from it");
        for (int count = 1; count <= 8; count++) {
            QuakeRehearsal x = new QuakeRehearsal();
            x.lamp(0, 1);
            for (int i = 1; i <= count; i++) {
                x.add(1);
            }
            Check.same("perform()", 0, x.perform());
            Check.same("swing", count, x.propOf(0, 3));
            Check.same("shocks, programme", count + " 0", x.account(6) + " " + x.account(10));
            Check.refuses("perform() again", x, 5, count, () -> x.perform());
        }
    }

    private static void theFirstShockIsTheFirst() {
        Check.begin("the first one first");
        QuakeRehearsal x = new QuakeRehearsal();
        x.cup(0, 8);
        x.add(8);
        x.add(7);
        x.add(6);
        x.perform();
        Check.same("from above", "c0:5'''!", Check.lineOf(x, 0));
        QuakeRehearsal y = new QuakeRehearsal();
        y.cup(0, 8);
        y.add(6);
        y.add(7);
        y.add(8);
        y.perform();
        Check.same("from below", "c0:7'", Check.lineOf(y, 0));
        Check.same("it rattled", 2, y.propOf(0, 6));
    }

    private static void anEmptyProgrammeIsRefused() {
        Check.begin("reason 5: how many shocks were performed so far");
        Twins.refuse("perform() at first", Pasts::none, 5, 0, x -> x.perform());
        Twins.refuse("perform() behind a shock", x -> x.shock(), 5, 1, x -> x.perform());
        Twins.refuse("perform() in a full hall", Pasts::fullHall, 5, 0, x -> x.perform());
        QuakeRehearsal x = new QuakeRehearsal();
        x.cat(0, 2);
        x.add(2);
        x.add(2);
        Check.same("perform()", 2, x.perform());
        Check.refuses("perform(), encores included", x, 5, 4, () -> x.perform());
        x.undo();
        Check.same("perform() of what was undone", 2, x.perform());
    }

    private static void encoresNeed3MarksForEachCat() {
        Check.begin("behind each shock with at least 3 marks for each cat there is");
        for (int count = 1; count <= 5; count++) {
            Check.same("3 for each of " + count, 1, encoresOf(count, 0));
            Check.same("1 less with " + count, 0, encoresOf(count, 1));
            Check.same("1 more with " + count, 1, encoresOf(count, -1));
        }
        QuakeRehearsal x = new QuakeRehearsal();
        x.cat(0, 9);
        x.cat(0, 8);
        x.cat(0, 1);
        x.add(9);
        Check.same("9 marks of 3, by two of them", 1, x.perform());
        x.cat(0, 1);
        x.add(9);
        Check.same("9 marks of 4", 0, x.perform());
    }

    /** Performs a shock of 4 for so many cats on floor 0, with 3 marks of each, but one gives so much less. */
    private static int encoresOf(int cats, int less) {
        QuakeRehearsal x = new QuakeRehearsal();
        x.cat(0, 6 + less);
        for (int i = 1; i < cats; i++) {
            x.cat(0, i % 2 == 0 ? 6 : 2);
        }
        x.add(4);
        Check.same("marks", 3 * cats - less, x.wouldMark(4));
        int came = x.perform();
        Check.same("encores so far", came, x.account(7));
        Check.same("shocks so far", 1 + came, x.account(6));
        return came;
    }

    private static void encoresNeedACat() {
        Check.begin("each cat there is, there being one");
        QuakeRehearsal x = new QuakeRehearsal();
        x.cup(0, 9);
        x.lamp(0, 9);
        x.add(9);
        Check.same("without cats", 0, x.perform());
        Check.same("shocks", 1, x.account(6));
        x.cat(4, 5);
        x.add(9);
        Check.same("with one", 1, x.perform());
        x.take(2);
        x.add(9);
        Check.same("with it gone", 0, x.perform());
        Check.same("shocks", 4, x.account(6));

        QuakeRehearsal y = new QuakeRehearsal();
        y.cat(0, 4);
        y.cat(4, 9);
        y.add(4);
        Check.same("5 marks, but a cat that gives none is there", 0, y.perform());
    }

    private static void encoresHaveHalfTheStrength() {
        Check.begin("a shock of half its strength, if that is 1 or more");
        int[] half = {0, 0, 1, 1, 2, 2, 3, 3, 4, 4};
        for (int strength = 1; strength <= 9; strength++) {
            QuakeRehearsal x = new QuakeRehearsal();
            x.cat(0, strength);
            x.lamp(0, 1);
            x.add(strength);
            int first = strength == 1 ? 1 : strength + 1;
            int second = half[strength] == 0 ? 0 : half[strength] == 1 ? 1 : half[strength] + 1;
            Check.same("encores of " + strength, strength == 1 ? 0 : 1, x.perform());
            Check.same("swing by both", first + second, x.propOf(1, 3));
            Check.same("marks of both", 5 + (strength == 1 ? 0 : Math.max(0, 5 - strength + half[strength])), x.account(8));
            Check.same("the set strength", 1, x.account(5));
        }
    }

    private static void behindAnEncoreComesNone() {
        Check.begin("behind which none comes");
        QuakeRehearsal x = new QuakeRehearsal();
        x.cat(0, 5);
        x.add(7);
        Check.same("marks of 7 and of 3", "3 3", x.wouldMark(7) + " " + x.wouldMark(3));
        Check.same("perform()", 1, x.perform());
        Check.same("shocks", 2, x.account(6));
        for (int i = 0; i < 8; i++) {
            x.add(7);
        }
        Check.same("one behind each of 8", 8, x.perform());
        Check.same("shocks, encores", "18 9", x.account(6) + " " + x.account(7));
        Check.same("marks", 54, x.account(8));
    }

    private static void anEncoreComesBehindItsShock() {
        Check.begin("an encore comes behind its shock, ahead of the next");
        QuakeRehearsal x = new QuakeRehearsal();
        x.cat(4, 4);
        x.cup(0, 9);
        x.add(9);
        x.add(8);
        x.add(7);
        Check.same("marks", "4 5 4", x.wouldMark(9) + " " + x.wouldMark(8) + " " + x.wouldMark(7));
        Check.same("perform()", 3, x.perform());
        Check.same("the cup", "c0:6'''!", Check.lineOf(x, 1));
        QuakeRehearsal y = new QuakeRehearsal();
        y.cat(0, 4);
        y.lamp(4, 1);
        y.add(4);
        y.add(7);
        Check.same("marks", "5 2", y.wouldMark(4) + " " + y.wouldMark(7));
        y.perform();
        Check.same("0 and 0, then 7 less 4 and 1 more for the cat", 2 + 1, y.propOf(1, 3));
        QuakeRehearsal z = new QuakeRehearsal();
        z.cat(0, 4);
        z.lamp(1, 1);
        z.add(5);
        z.add(1);
        z.perform();
        Check.same("3 and 1, 0, then 1 less", 2, z.propOf(1, 3));
    }

    private static void encoresMeetCues() {
        Check.begin("an encore is a shock of its own strength");
        QuakeRehearsal x = new QuakeRehearsal();
        x.cat(0, 6);
        x.lamp(0, 1);
        x.cue(1, 3);
        x.add(6);
        x.perform();
        Check.same("half of 7 and 4", 5, x.propOf(1, 3));
        QuakeRehearsal y = new QuakeRehearsal();
        y.cat(0, 6);
        y.lamp(0, 1);
        y.cue(1, 6);
        y.add(6);
        y.perform();
        Check.same("half of 7, and 4", 3 + 4, y.propOf(1, 3));
    }

    private static void placesOfTheProgramme() {
        Check.begin("promise 13: if there is no such place");
        Class<java.util.NoSuchElementException> noPlace = java.util.NoSuchElementException.class;
        for (int place : new int[] {-1, 8, 9, 256, Integer.MIN_VALUE, Integer.MAX_VALUE}) {
            Twins.stay("programme(" + place + ")", Pasts::fullProgramme, noPlace, x -> x.programme(place));
        }
        for (int place : new int[] {-1, 0, 1}) {
            Twins.stay("programme(" + place + ")", Pasts::none, noPlace, x -> x.programme(place));
        }
        QuakeRehearsal x = new QuakeRehearsal();
        for (int count = 1; count <= 8; count++) {
            int next = count;
            x.add(10 - count);
            for (int place = 0; place < count; place++) {
                Check.same("programme(" + place + ")", 9 - place, x.programme(place));
            }
            Check.fails("programme(" + count + ")", noPlace, () -> x.programme(next));
        }
    }

    private static void quietHalvesSwings() {
        Check.begin("the swing of each lamp that is not broken becomes half");
        for (int swing = 0; swing <= 20; swing++) {
            QuakeRehearsal x = new QuakeRehearsal();
            x.lamp(0, 1);
            x.cue(0, 9);
            for (int i = 0; i < swing; i++) {
                x.shock();
            }
            int half = swing / 2;
            Check.same("quiet() at " + swing, half, x.quiet());
            Check.same("swing", half, x.propOf(0, 3));
            Check.same("quiet() again", half / 2, x.quiet());
        }
        QuakeRehearsal y = new QuakeRehearsal();
        y.lamp(0, 1);
        y.lamp(0, 1);
        y.shock();
        y.shock();
        y.shock();
        Check.same("3 and 3, each by itself", 1 + 1, y.quiet());
        Check.same("1 and 1, each by itself", 0, y.quiet());
    }

    private static void quietLeavesTheRest() {
        Check.begin("quiet() leaves broken lamps, cups, cats and accounts");
        QuakeRehearsal x = new QuakeRehearsal();
        Check.same("an empty hall", 0, x.quiet());
        x.lamp(0, 1);
        for (int i = 0; i < 21; i++) {
            x.shock();
        }
        Check.same("the lamp", "l0:1~21!", Check.lineOf(x, 0));
        x.lamp(0, 1);
        x.cup(0, 2);
        x.cat(4, 5);
        x.add(3);
        Check.shock(x, 4);
        Check.same("quiet() tells those that are not broken", 2, x.quiet());
        Check.same("state", "2,0,1,21,1,0,0;2,0,1,2,0,0,0;1,0,1,1,0,0,0;3,4,5,0,0,0,0; +3 4 1 2 1 1 4 22 0 0 1 1",
            Check.stateOf(x));
    }
}
