/** "Shocks", "Cups", "Lamps", "Cats", "Performing" and "Quiet" in the document, on both sides of each bound. */
public final class ShakingBoundsTest {
    private static final Class<IllegalArgumentException> WRONG = IllegalArgumentException.class;
    private static final int[] NO_STRENGTHS = {0, 10, -1, 257, -255, Integer.MIN_VALUE, Integer.MAX_VALUE};

    private ShakingBoundsTest() {
    }

    public static void main(String[] args) {
        strengthsAre1To9();
        floorsOfOnAre0To4();
        aShockLosesOneOnEachFloor();
        aCatWeakensOnlyAbove();
        catsWeakenOnceHoweverMany();
        onlyCatsWeaken();
        theSetStrengthIsThatOfAShock();
        aCupCracksFromItsGradeOn();
        aCupRattlesFromHalfItsGradeOn();
        aCupBreaksByTheThirdCrack();
        aBrokenCupIsLeftAlone();
        aGradeIsNotBelow1();
        aRattledCupKeepsItsGrade();
        aLampSwingsByStrengthAndRemainder();
        aLampWithoutStrengthSwingsLess();
        aLampFallsAbove20();
        aFallenLampKeepsItsSwing();
        aCuedLampSwingsHalf();
        aCueIsForTheStrengthOnFloor0();
        aCuedLampWithoutStrength();
        aCuedLampFallsByHalf();
        aCueWith0IsNone();
        Check.end();
    }

    private static void strengthsAre1To9() {
        Check.begin("a shock has a strength from 1 to 9");
        QuakeRehearsal x = new QuakeRehearsal();
        for (int strength = 9; strength >= 1; strength--) {
            Check.same("set(" + strength + ")", strength == 9 ? 1 : strength + 1, x.set(strength));
            Check.same("wouldMark(" + strength + ")", 0, x.wouldMark(strength));
            Check.same("wouldBreak(" + strength + ")", 0, x.wouldBreak(strength, strength % 2 == 0));
            Check.same("on(" + strength + ", 0)", strength, x.on(strength, 0, strength % 2 == 0));
        }
        for (int strength = 1; strength <= 8; strength++) {
            Check.same("add(" + (strength + 1) + ")", strength, x.add(strength + 1));
        }
        x.perform();
        Check.same("add(1)", 1, x.add(1));
        for (int strength : NO_STRENGTHS) {
            Twins.stay("set(" + strength + ")", Pasts::busyWithInput, WRONG, y -> y.set(strength));
            Twins.stay("add(" + strength + ")", Pasts::busyWithInput, WRONG, y -> y.add(strength));
            Twins.stay("add(" + strength + ") to 8", Pasts::fullProgramme, WRONG, y -> y.add(strength));
            Twins.stay("wouldMark(" + strength + ")", Pasts::busy, WRONG, y -> y.wouldMark(strength));
            Twins.stay("wouldBreak(" + strength + ", false)", Pasts::busy, WRONG, y -> y.wouldBreak(strength, false));
            Twins.stay("wouldBreak(" + strength + ", true)", Pasts::busy, WRONG, y -> y.wouldBreak(strength, true));
        }
    }

    private static void floorsOfOnAre0To4() {
        Check.begin("promise 14: if the strength is out of range, or the floor not from 0 to 4");
        for (boolean isAgain : new boolean[] {false, true}) {
            for (int strength : NO_STRENGTHS) {
                Twins.stay("on(" + strength + ", 0)", Pasts::busy, WRONG, x -> x.on(strength, 0, isAgain));
                Twins.stay("on(" + strength + ", 4)", Pasts::busy, WRONG, x -> x.on(strength, 4, isAgain));
                Twins.stay("on(" + strength + ", 5)", Pasts::busy, WRONG, x -> x.on(strength, 5, isAgain));
            }
            for (int floor : new int[] {-1, 5, 256, Integer.MIN_VALUE, Integer.MAX_VALUE}) {
                Twins.stay("on(1, " + floor + ")", Pasts::busy, WRONG, x -> x.on(1, floor, isAgain));
                Twins.stay("on(9, " + floor + ")", Pasts::busy, WRONG, x -> x.on(9, floor, isAgain));
            }
        }
    }

    /** For each set of floors with cats, by both ways and by what it does to a cat there. */
    private static void aShockLosesOneOnEachFloor() {
        Check.begin("on each floor above it has 1 less, but not below 0, and 1 less again above a cat");
        for (int cats = 0; cats < 32; cats++) {
            QuakeRehearsal x = new QuakeRehearsal();
            for (int floor = 0; floor <= 4; floor++) {
                if ((cats >> floor & 1) == 1) {
                    x.cat(floor, 9);
                }
            }
            for (int strength = 1; strength <= 9; strength++) {
                for (int floor = 0; floor <= 4; floor++) {
                    int due = Math.max(0, strength - floor - Integer.bitCount(cats & (1 << floor) - 1));
                    String call = "on(" + strength + ", " + floor + ") with cats " + cats;
                    Check.same(call, due, x.on(strength, floor, false));
                    Check.same(call + " again", due, x.on(strength, floor, true));
                }
            }
        }
    }

    private static void aCatWeakensOnlyAbove() {
        Check.begin("1 less again if a cat is on the floor below");
        for (boolean isAgain : new boolean[] {false, true}) {
            QuakeRehearsal x = new QuakeRehearsal();
            x.cat(2, 5);
            Check.same("below the cat", 8, x.on(9, 1, isAgain));
            Check.same("on the cat's floor", 7, x.on(9, 2, isAgain));
            Check.same("above the cat", 5, x.on(9, 3, isAgain));
            Check.same("further up", 4, x.on(9, 4, isAgain));
            Check.same("1 left on the cat's floor", 1, x.on(3, 2, isAgain));
            Check.same("1 less 2 is not below 0", 0, x.on(3, 3, isAgain));
            Check.same("nor is it further up", 0, x.on(3, 4, isAgain));
            Check.same("2 less 2", 0, x.on(4, 3, isAgain));
            Check.same("3 less 2", 1, x.on(5, 3, isAgain));
            x.cat(4, 5);
            Check.same("a cat on the top", 4, x.on(9, 4, isAgain));
            x.take(0);
            Check.same("without the cat below", 5, x.on(9, 4, isAgain));
            Check.same("without it", 6, x.on(9, 3, isAgain));
        }
    }

    private static void catsWeakenOnceHoweverMany() {
        Check.begin("however many cats are on a floor, a shock has 1 less again once by that");
        for (int count = 1; count <= 5; count++) {
            QuakeRehearsal x = new QuakeRehearsal();
            x.cup(3, 5);
            x.cup(3, 6);
            for (int i = 0; i < count; i++) {
                x.cat(1, i);
            }
            for (boolean isAgain : new boolean[] {false, true}) {
                Check.same("on(9, 2) with " + count, 6, x.on(9, 2, isAgain));
                Check.same("on(9, 3) with " + count, 5, x.on(9, 3, isAgain));
            }
            x.set(9);
            x.shock();
            Check.same("cracks of the grade 5", 1, x.propOf(0, 3));
            Check.same("cracks of the grade 6", 0, x.propOf(1, 3));
            for (int i = 1; i < count; i++) {
                x.take(2);
            }
            Check.same("with the last of them", 5, x.on(9, 3, false));
            x.take(2);
            Check.same("without them", 6, x.on(9, 3, false));
            Check.same("without them", 6, x.on(9, 3, true));
        }
    }

    private static void onlyCatsWeaken() {
        Check.begin("cups and lamps below do not weaken a shock");
        QuakeRehearsal x = new QuakeRehearsal();
        for (int floor = 0; floor <= 4; floor++) {
            x.cup(floor, 9);
            x.lamp(floor, 9);
        }
        for (int floor = 0; floor <= 4; floor++) {
            Check.same("on(9, " + floor + ")", 9 - floor, x.on(9, floor, false));
            Check.same("on(9, " + floor + ")", 9 - floor, x.on(9, floor, true));
        }
    }

    private static void theSetStrengthIsThatOfAShock() {
        Check.begin("the machine is set to a strength, which is that of a shock unless another one is told");
        for (int strength = 1; strength <= 9; strength++) {
            QuakeRehearsal x = new QuakeRehearsal();
            x.lamp(0, strength);
            Check.shock(x, strength);
            Check.same("swing by a set strength", strength, x.propOf(0, 3));
            x.add(1);
            x.perform();
            Check.same("swing by a told strength", strength + 1, x.propOf(0, 3));
            Check.same("the set strength", strength, x.account(5));
            Check.same("wouldBreak", 0, x.wouldBreak(10 - strength, false));
            Check.same("the set strength", strength, x.account(5));
        }
    }

    private static void aCupCracksFromItsGradeOn() {
        Check.begin("as strong as its grade, or stronger, it gets a crack");
        for (int grade = 1; grade <= 9; grade++) {
            for (int strength = 1; strength <= 9; strength++) {
                for (int floor = 0; floor <= 4; floor++) {
                    int here = Math.max(0, strength - floor);
                    boolean cracks = here >= grade;
                    QuakeRehearsal x = shakenCup(floor, grade, strength);
                    String call = "grade " + grade + " by " + here;
                    Check.same("cracks of " + call, cracks ? 1 : 0, x.propOf(0, 3));
                    Check.same("grade of " + call, cracks ? Math.max(1, grade - 1) : grade, x.propOf(0, 2));
                    Check.same("rattling of " + call, !cracks && 2 * here >= grade ? 1 : 0, x.propOf(0, 6));
                }
            }
        }
    }

    private static QuakeRehearsal shakenCup(int floor, int grade, int strength) {
        QuakeRehearsal x = new QuakeRehearsal();
        x.cup(floor, grade);
        Check.shock(x, strength);
        return x;
    }

    private static void aCupRattlesFromHalfItsGradeOn() {
        Check.begin("by a weaker one, twice of which is its grade at least, it rattles");
        Check.same("8 by 4: twice is as much", 1, shakenCup(0, 8, 4).propOf(0, 6));
        Check.same("8 by 3: twice is less", 0, shakenCup(0, 8, 3).propOf(0, 6));
        Check.same("8 by 7: weaker by 1", 1, shakenCup(0, 8, 7).propOf(0, 6));
        Check.same("8 by 8: no weaker", 0, shakenCup(0, 8, 8).propOf(0, 6));
        Check.same("9 by 5: twice is more by 1", 1, shakenCup(0, 9, 5).propOf(0, 6));
        Check.same("9 by 4: twice is less by 1", 0, shakenCup(0, 9, 4).propOf(0, 6));
        Check.same("2 by 1", 1, shakenCup(0, 2, 1).propOf(0, 6));
        Check.same("3 by 1", 0, shakenCup(0, 3, 1).propOf(0, 6));
        Check.same("1 without strength", 0, shakenCup(1, 1, 1).propOf(0, 6));
        QuakeRehearsal x = new QuakeRehearsal();
        x.cup(0, 8);
        x.set(4);
        for (int times = 1; times <= 12; times++) {
            x.shock();
            Check.same("how often it rattled", times, x.propOf(0, 6));
        }
        Check.same("no cracks by that", "c0:8", Check.lineOf(x, 0));
    }

    private static void aCupBreaksByTheThirdCrack() {
        Check.begin("with 3 cracks it is broken, and gets no more");
        QuakeRehearsal x = new QuakeRehearsal();
        x.cup(0, 6);
        x.set(9);
        String[] due = {"c0:5'", "c0:4''", "c0:3'''!", "c0:3'''!", "c0:3'''!"};
        for (int times = 1; times <= 5; times++) {
            x.shock();
            Check.same("behind shock " + times, due[times - 1], Check.lineOf(x, 0));
            Check.same("broken", times >= 3, x.isBroken(0));
            Check.same("broken", times >= 3 ? 1 : 0, x.propOf(0, 4));
            Check.same("broken props", times >= 3 ? 1 : 0, x.account(4));
            Check.same("what broke so far", times >= 3 ? 1 : 0, x.account(9));
        }
    }

    private static void aBrokenCupIsLeftAlone() {
        Check.begin("it rattles if it is not broken");
        QuakeRehearsal x = new QuakeRehearsal();
        x.cup(0, 9);
        x.set(9);
        x.shock();
        x.shock();
        Check.shock(x, 4);
        Check.same("2 cracks, 7 by 4", "7 2 0 1", x.propOf(0, 2) + " " + x.propOf(0, 3) + " " + x.propOf(0, 4) + " "
            + x.propOf(0, 6));
        Check.shock(x, 7);
        Check.same("the third crack", "c0:6'''!", Check.lineOf(x, 0));
        for (int strength = 1; strength <= 9; strength++) {
            Check.shock(x, strength);
            Check.same("broken, by " + strength, "1,0,6,3,1,0,1", Check.stateOf(x).substring(0, 13));
        }
        Check.same("what broke so far", 1, x.account(9));
    }

    private static void aGradeIsNotBelow1() {
        Check.begin("its grade becomes 1 less, but not below 1, each time that it cracks");
        String[] due = {"111", "111", "211", "321", "432", "543", "654", "765", "876"};
        for (int grade = 1; grade <= 9; grade++) {
            QuakeRehearsal x = new QuakeRehearsal();
            x.cup(0, grade);
            x.set(9);
            StringBuilder grades = new StringBuilder();
            for (int crack = 1; crack <= 3; crack++) {
                x.shock();
                grades.append(x.propOf(0, 2));
            }
            Check.same("grades from " + grade, due[grade - 1], grades.toString());
        }
    }

    private static void aRattledCupKeepsItsGrade() {
        Check.begin("a cracked cup cracks from its new grade on");
        QuakeRehearsal x = new QuakeRehearsal();
        x.cup(0, 5);
        Check.shock(x, 4);
        Check.same("rattled by 4", "c0:5", Check.lineOf(x, 0));
        Check.shock(x, 5);
        Check.same("cracked by 5", "c0:4'", Check.lineOf(x, 0));
        Check.shock(x, 4);
        Check.same("cracked by 4", "c0:3''", Check.lineOf(x, 0));
        Check.shock(x, 2);
        Check.same("rattled by 2", "c0:3''", Check.lineOf(x, 0));
        Check.shock(x, 1);
        Check.same("not even rattled by 1", 2, x.propOf(0, 6));
    }

    private static void aLampSwingsByStrengthAndRemainder() {
        Check.begin("as much more as this is strong on its floor, and its length leaves as a remainder, together");
        for (int length = 1; length <= 9; length++) {
            for (int strength = 1; strength <= 9; strength++) {
                for (int floor = 0; floor <= 4; floor++) {
                    int here = Math.max(0, strength - floor);
                    int more = here == 0 ? 0 : here + length - length / here * here;
                    QuakeRehearsal x = new QuakeRehearsal();
                    x.lamp(floor, length);
                    Check.shock(x, strength);
                    String call = "swing of the length " + length + " by " + here;
                    Check.same(call, more, x.propOf(0, 3));
                    Check.shock(x, 1);
                    int then = floor == 0 ? more + 1 : Math.max(0, more - 1);
                    Check.same(call + " and by 1 on floor 0", then, x.propOf(0, 3));
                    Check.same("its length", length, x.propOf(0, 2));
                }
            }
        }
    }

    private static void aLampWithoutStrengthSwingsLess() {
        Check.begin("without strength on its floor it becomes 1 less, but not below 0");
        QuakeRehearsal x = new QuakeRehearsal();
        x.lamp(4, 1);
        Check.shock(x, 4);
        Check.same("0 stays 0", 0, x.propOf(0, 3));
        Check.shock(x, 5);
        Check.same("with the strength 1", 1, x.propOf(0, 3));
        x.shock();
        Check.same("with the strength 1", 2, x.propOf(0, 3));
        Check.shock(x, 4);
        Check.same("1 less", 1, x.propOf(0, 3));
        x.shock();
        Check.same("1 less", 0, x.propOf(0, 3));
        x.shock();
        Check.same("not below 0", 0, x.propOf(0, 3));
        x.cat(3, 5);
        Check.shock(x, 6);
        Check.same("1 above a cat", 1, x.propOf(0, 3));
        Check.shock(x, 5);
        Check.same("0 above a cat", 0, x.propOf(0, 3));
    }

    /** A lamp of the length 1 on floor 0 that swings by so much, up to 20. */
    private static QuakeRehearsal swinging(int swing) {
        QuakeRehearsal x = new QuakeRehearsal();
        x.lamp(0, 1);
        for (int i = 0; i < swing; i++) {
            x.shock();
        }
        Check.same("swing", swing, x.propOf(0, 3));
        return x;
    }

    private static void aLampFallsAbove20() {
        Check.begin("a lamp that swings by more than 20 falls");
        for (int strength = 1; strength <= 9; strength++) {
            int each = strength == 1 ? 1 : strength + 1;
            QuakeRehearsal stays = swinging(20 - each);
            Check.shock(stays, strength);
            Check.same("20 stays", "l0:1~20", Check.lineOf(stays, 0));
            Check.same("20 stays", "false 0 0", stays.isBroken(0) + " " + stays.account(4) + " " + stays.account(9));
            QuakeRehearsal falls = swinging(21 - each);
            Check.shock(falls, strength);
            Check.same("21 falls", "l0:1~21!", Check.lineOf(falls, 0));
            Check.same("21 falls", "true 1 1", falls.isBroken(0) + " " + falls.account(4) + " " + falls.account(9));
        }
    }

    private static void aFallenLampKeepsItsSwing() {
        Check.begin("it is broken, and its swing stays");
        QuakeRehearsal x = swinging(20);
        x.shock();
        Check.same("broken", "l0:1~21!", Check.lineOf(x, 0));
        x.quiet();
        Check.same("behind quiet()", "l0:1~21!", Check.lineOf(x, 0));
        for (int strength = 1; strength <= 9; strength++) {
            Check.shock(x, strength);
            Check.same("by " + strength, "l0:1~21!", Check.lineOf(x, 0));
        }
        Check.same("what broke so far", 1, x.account(9));

        QuakeRehearsal top = new QuakeRehearsal();
        top.lamp(1, 8);
        top.cue(0, 3);
        Check.shock(top, 9);
        top.shock();
        top.shock();
        Check.same("broken", "l1:8~24#3!", Check.lineOf(top, 0));
        Check.shock(top, 1);
        Check.same("by one without strength there", "l1:8~24#3!", Check.lineOf(top, 0));
        Check.shock(top, 3);
        Check.same("by the one for which it is cued", "l1:8~24#3!", Check.lineOf(top, 0));
    }

    private static void aCuedLampSwingsHalf() {
        Check.begin("by a shock that has this strength its swing becomes half of what it would be");
        for (int cue = 1; cue <= 9; cue++) {
            for (int strength = 1; strength <= 9; strength++) {
                QuakeRehearsal x = swinging(3);
                x.cue(0, cue);
                Check.shock(x, strength);
                int would = 3 + (strength == 1 ? 1 : strength + 1);
                String call = "swing cued for " + cue + " by " + strength;
                Check.same(call, cue == strength ? would / 2 : would, x.propOf(0, 3));
                Check.same("the cue stays", cue, x.propOf(0, 5));
            }
        }
    }

    private static void aCueIsForTheStrengthOnFloor0() {
        Check.begin("a cue is for the strength on floor 0");
        for (int floor = 1; floor <= 4; floor++) {
            QuakeRehearsal x = new QuakeRehearsal();
            x.lamp(floor, 1);
            x.cue(0, 9 - floor);
            Check.shock(x, 9);
            Check.same("cued for what it has there", 9 - floor + 1, x.propOf(0, 3));
            QuakeRehearsal y = new QuakeRehearsal();
            y.lamp(floor, 1);
            y.cue(0, 9);
            Check.shock(y, 9);
            Check.same("cued for what it has on floor 0", (9 - floor + 1) / 2, y.propOf(0, 3));
        }
    }

    private static void aCuedLampWithoutStrength() {
        Check.begin("half of 1 less, but not below 0");
        int[] due = {0, 0, 0, 1, 1, 2};
        for (int swing = 0; swing <= 5; swing++) {
            QuakeRehearsal x = new QuakeRehearsal();
            x.lamp(4, 1);
            x.set(5);
            for (int i = 0; i < swing; i++) {
                x.shock();
            }
            Check.same("swing", swing, x.propOf(0, 3));
            x.cue(0, 4);
            Check.shock(x, 4);
            Check.same("half of 1 less than " + swing, due[swing], x.propOf(0, 3));
        }
    }

    /** The greatest swing that any lamp would have is 20 and 9 and 8, half of which is not more than 20. */
    private static void aCuedLampFallsByHalf() {
        Check.begin("a cued lamp falls if half of what its swing would be is more than 20");
        QuakeRehearsal x = new QuakeRehearsal();
        x.lamp(0, 8);
        for (int i = 0; i < 20; i++) {
            x.shock();
        }
        Check.same("of 37, not cued", "1 1", x.wouldBreak(9, false) + " " + x.wouldBreak(9, true));
        x.cue(0, 9);
        Check.same("of 37, cued for it", "0 0", x.wouldBreak(9, false) + " " + x.wouldBreak(9, true));
        Check.same("of 28, cued for another", "1 1", x.wouldBreak(8, false) + " " + x.wouldBreak(8, true));
        x.save();
        Check.shock(x, 9);
        Check.same("half of 37", "l0:8~18#9", Check.lineOf(x, 0));
        x.restore();
        x.cue(0, 8);
        Check.shock(x, 9);
        Check.same("all of 37", "l0:8~37#8!", Check.lineOf(x, 0));
        QuakeRehearsal y = swinging(20);
        y.cue(0, 1);
        y.shock();
        Check.same("half of 21", "l0:1~10#1", Check.lineOf(y, 0));
        Check.same("nothing broke", 0, y.account(9));
    }

    private static void aCueWith0IsNone() {
        Check.begin("0 takes the cue away");
        QuakeRehearsal x = swinging(3);
        x.cue(0, 1);
        x.cue(0, 0);
        x.shock();
        Check.same("the swing is whole", "l0:1~4", Check.lineOf(x, 0));
    }
}
