import java.util.NoSuchElementException;

/** Promises 1 to 13: props, shocks and the programme. */
public final class PropsTest {
    private static final Class<IllegalArgumentException> WRONG = IllegalArgumentException.class;
    private static final Class<IndexOutOfBoundsException> NO_PROP = IndexOutOfBoundsException.class;
    private static final int[] NO_FLOORS = {-1, 5, Integer.MIN_VALUE, Integer.MAX_VALUE};
    private static final int[] NO_STRENGTHS = {0, -1, 10, Integer.MIN_VALUE, Integer.MAX_VALUE};

    private PropsTest() {
    }

    public static void main(String[] args) {
        newObject();
        cup();
        lamp();
        cat();
        fullHall();
        take();
        cue();
        set();
        shockCracksCups();
        shockSwingsLamps();
        shockIsCued();
        shockIsMarked();
        shockFrightensCats();
        add();
        perform();
        encores();
        quiet();
        propOf();
        programme();
        Check.end();
    }

    private static void newObject() {
        Check.begin("promise 1");
        QuakeRehearsal x = new QuakeRehearsal();
        for (int what = 0; what <= 12; what++) {
            Check.same("account(" + what + ")", what == 5 ? 1 : 0, x.account(what));
        }
        Check.fails("propOf(0, 0)", NO_PROP, () -> x.propOf(0, 0));
        Check.fails("programme(0)", NoSuchElementException.class, () -> x.programme(0));
        Check.same("errorPosition()", -1, x.errorPosition());
    }

    private static void cup() {
        Check.begin("promise 2");
        QuakeRehearsal x = new QuakeRehearsal();
        Check.same("cup(0, 1)", 0, x.cup(0, 1));
        Check.same("cup(4, 9)", 1, x.cup(4, 9));
        Check.same("state", "1,0,1,0,0,0,0;1,4,9,0,0,0,0; 2 2 0 0 0 1 0 0 0 0 0", Check.stateOf(x));
        for (int floor : NO_FLOORS) {
            Check.fails("cup(" + floor + ", 1)", WRONG, () -> x.cup(floor, 1));
        }
        for (int grade : NO_STRENGTHS) {
            Check.fails("cup(0, " + grade + ")", WRONG, () -> x.cup(0, grade));
        }
        for (int i = 0; i < 4; i++) {
            x.cup(0, 1);
        }
        String before = Check.stateOf(x);
        Check.refuses("the sixth cup on floor 0", x, 2, 0, () -> x.cup(0, 1));
        Check.fails("a wrong cup on a full floor", WRONG, () -> x.cup(0, 0));
        Check.same("state", before, Check.stateOf(x));
        Check.same("changes", 6, x.account(12));
        Check.same("a lamp on that floor", 6, x.lamp(0, 1));
        Check.same("a cat on that floor", 7, x.cat(0, 1));
        for (int i = 0; i < 4; i++) {
            x.cup(4, 9);
        }
        Check.refuses("the sixth cup on floor 4, the 13th prop", x, 1, 12, () -> x.cup(4, 9));
    }

    private static void lamp() {
        Check.begin("promise 3");
        QuakeRehearsal x = new QuakeRehearsal();
        Check.same("lamp(4, 1)", 0, x.lamp(4, 1));
        Check.same("lamp(0, 9)", 1, x.lamp(0, 9));
        Check.same("state", "2,4,1,0,0,0,0;2,0,9,0,0,0,0; 2 0 2 0 0 1 0 0 0 0 0", Check.stateOf(x));
        for (int floor : NO_FLOORS) {
            Check.fails("lamp(" + floor + ", 1)", WRONG, () -> x.lamp(floor, 1));
        }
        for (int length : NO_STRENGTHS) {
            Check.fails("lamp(0, " + length + ")", WRONG, () -> x.lamp(0, length));
        }
        for (int i = 0; i < 4; i++) {
            x.lamp(4, 5);
        }
        Check.refuses("the sixth lamp on floor 4", x, 2, 4, () -> x.lamp(4, 5));
        Check.same("a cup on that floor", 6, x.cup(4, 5));
    }

    private static void cat() {
        Check.begin("promise 4");
        QuakeRehearsal x = new QuakeRehearsal();
        Check.same("cat(3, 0)", 0, x.cat(3, 0));
        Check.same("cat(0, 9)", 1, x.cat(0, 9));
        Check.same("state", "3,3,0,0,0,0,0;3,0,9,0,0,0,0; 2 0 0 2 0 1 0 0 0 0 0", Check.stateOf(x));
        for (int floor : NO_FLOORS) {
            Check.fails("cat(" + floor + ", 1)", WRONG, () -> x.cat(floor, 1));
        }
        for (int likes : new int[] {-1, 10, Integer.MIN_VALUE, Integer.MAX_VALUE}) {
            Check.fails("cat(0, " + likes + ")", WRONG, () -> x.cat(0, likes));
        }
        for (int i = 0; i < 4; i++) {
            x.cat(3, 5);
        }
        Check.refuses("the sixth cat on floor 3", x, 2, 3, () -> x.cat(3, 5));
        Check.same("a lamp on that floor", 6, x.lamp(3, 5));
    }

    private static void fullHall() {
        Check.begin("promises 2 to 4, a full hall");
        QuakeRehearsal x = new QuakeRehearsal();
        for (int i = 0; i < 12; i++) {
            Check.same("cup", i, x.cup(i / 4, 5));
        }
        String before = Check.stateOf(x);
        Check.refuses("cup(4, 5)", x, 1, 12, () -> x.cup(4, 5));
        x.set(2);
        Check.fails("set(2)", UnsupportedOperationException.class, () -> x.set(2));
        Check.refuses("lamp(4, 5)", x, 1, 12, () -> x.lamp(4, 5));
        Check.fails("set(2)", UnsupportedOperationException.class, () -> x.set(2));
        Check.refuses("cat(4, 0)", x, 1, 12, () -> x.cat(4, 0));
        Check.fails("cat(5, 0)", WRONG, () -> x.cat(5, 0));
        x.set(1);
        Check.same("state", before, Check.stateOf(x));
        x.take(0);
        Check.same("a cup again", 11, x.cup(0, 5));
    }

    private static void take() {
        Check.begin("promise 5");
        QuakeRehearsal x = new QuakeRehearsal();
        Check.fails("take(0)", NO_PROP, () -> x.take(0));
        x.cup(1, 2);
        x.lamp(2, 3);
        x.cat(3, 4);
        x.cue(1, 7);
        x.shock();
        Check.fails("take(-1)", NO_PROP, () -> x.take(-1));
        Check.fails("take(3)", NO_PROP, () -> x.take(3));
        Check.fails("take(least)", NO_PROP, () -> x.take(Integer.MIN_VALUE));
        String lamp = Check.lineOf(x, 1);
        String cat = Check.lineOf(x, 2);
        Check.same("take(0)", 2, x.take(0));
        Check.same("the lamp", lamp, Check.lineOf(x, 0));
        Check.same("the cat", cat, Check.lineOf(x, 1));
        Check.fails("propOf(2, 0)", NO_PROP, () -> x.propOf(2, 0));
        Check.same("take(1)", 1, x.take(1));
        Check.same("the lamp", lamp, Check.lineOf(x, 0));
        Check.same("take(0)", 0, x.take(0));
        Check.same("a cup in its place is new", 0, x.cup(0, 5));
        Check.same("state", "1,0,5,0,0,0,0; 1 1 0 0 0 1 1 0 1 0 0", Check.stateOf(x));
        x.set(9);
        x.shock();
        x.shock();
        x.shock();
        Check.same("it is broken", true, x.isBroken(0));
        Check.same("take of a broken one", 0, x.take(0));
        Check.same("broken props", 0, x.account(4));
        Check.same("what broke so far", 1, x.account(9));
        Check.same("a new cup in its place", 0, x.cup(1, 9));
        Check.same("the new cup", "1,1,9,0,0,0,0; 1 1 0 0 0 9 4 0 1 1 0", Check.stateOf(x));
        x.shock();
        x.take(0);
        x.cat(0, 9);
        Check.same("a new cat in its place", "3,0,9,0,0,0,0; 1 0 0 1 0 9 5 0 1 1 0", Check.stateOf(x));
        x.shock();
        x.take(0);
        x.lamp(0, 9);
        x.cue(0, 9);
        x.take(0);
        x.lamp(0, 9);
        Check.same("a new lamp in its place", "2,0,9,0,0,0,0; 1 0 1 0 0 9 6 0 6 1 0", Check.stateOf(x));
    }

    private static void cue() {
        Check.begin("promise 6");
        QuakeRehearsal x = new QuakeRehearsal();
        Check.fails("cue(0, 10)", NO_PROP, () -> x.cue(0, 10));
        x.lamp(0, 8);
        x.cup(3, 1);
        x.cat(4, 2);
        Check.refuses("cue(0, 0)", x, 3, 0, () -> x.cue(0, 0));
        Check.same("cue(0, 9)", 0, x.cue(0, 9));
        Check.same("cue(0, 1)", 9, x.cue(0, 1));
        Check.refuses("cue(0, 1)", x, 3, 1, () -> x.cue(0, 1));
        Check.same("cue(0, 0)", 1, x.cue(0, 0));
        Check.same("the cue", 0, x.propOf(0, 5));
        Check.fails("cue(-1, 1)", NO_PROP, () -> x.cue(-1, 1));
        Check.fails("cue(3, -1)", NO_PROP, () -> x.cue(3, -1));
        Check.fails("cue(0, 10)", WRONG, () -> x.cue(0, 10));
        Check.fails("cue(0, -1)", WRONG, () -> x.cue(0, -1));
        Check.fails("cue(1, 10), a cup", WRONG, () -> x.cue(1, 10));
        Check.refuses("cue(1, 1), a cup", x, 4, 3, () -> x.cue(1, 1));
        Check.refuses("cue(1, 0), a cup without one", x, 4, 3, () -> x.cue(1, 0));
        Check.refuses("cue(2, 1), a cat", x, 4, 4, () -> x.cue(2, 1));
        Check.same("cue(0, 4)", 0, x.cue(0, 4));
        x.set(9);
        x.shock();
        x.shock();
        Check.same("the lamp", "l0:8~34#4!", Check.lineOf(x, 0));
        Check.refuses("cue(0, 4), broken", x, 6, 34, () -> x.cue(0, 4));
        Check.refuses("cue(0, 5), broken", x, 6, 34, () -> x.cue(0, 5));
        Check.fails("cue(0, 11), broken", WRONG, () -> x.cue(0, 11));
        Check.same("the cue stays", 4, x.propOf(0, 5));
    }

    private static void set() {
        Check.begin("promise 7");
        QuakeRehearsal x = new QuakeRehearsal();
        Check.refuses("set(1)", x, 3, 1, () -> x.set(1));
        Check.same("set(9)", 1, x.set(9));
        Check.refuses("set(9)", x, 3, 9, () -> x.set(9));
        Check.same("set(4)", 9, x.set(4));
        for (int strength : NO_STRENGTHS) {
            Check.fails("set(" + strength + ")", WRONG, () -> x.set(strength));
        }
        Check.same("the strength", 4, x.account(5));
        Check.same("changes", 2, x.account(12));
    }

    private static void shockCracksCups() {
        Check.begin("promise 8, cups");
        QuakeRehearsal x = new QuakeRehearsal();
        x.cup(0, 3);
        x.cup(0, 4);
        x.cup(0, 6);
        x.cup(0, 7);
        x.cup(1, 2);
        x.set(3);
        Check.same("shock()", 0, x.shock());
        Check.same("as strong", "c0:2'", Check.lineOf(x, 0));
        Check.same("weaker", "c0:4", Check.lineOf(x, 1));
        Check.same("above", "c1:1'", Check.lineOf(x, 4));
        Check.same("a cracked one did not rattle", 0, x.propOf(0, 6));
        Check.same("twice of it is more", 1, x.propOf(1, 6));
        Check.same("twice of it is as much", 1, x.propOf(2, 6));
        Check.same("twice of it is less", 0, x.propOf(3, 6));
        x.shock();
        x.shock();
        Check.same("three cracks", "c0:1'''!", Check.lineOf(x, 0));
        Check.same("its grade is never below 1", "c1:1'''!", Check.lineOf(x, 4));
        Check.same("what broke", 2, x.account(9));
        x.shock();
        Check.same("no more cracks", "c0:1'''!", Check.lineOf(x, 0));
        Check.same("what broke is told once", 2, x.account(9));
        Check.same("shocks", 4, x.account(6));
        Check.same("rattled", 4, x.propOf(2, 6));

        QuakeRehearsal y = new QuakeRehearsal();
        y.cup(0, 5);
        y.set(9);
        y.shock();
        y.shock();
        y.shock();
        Check.same("broken with the grade 2", "c0:2'''!", Check.lineOf(y, 0));
        y.set(1);
        y.shock();
        Check.same("a broken one does not rattle", 0, y.propOf(0, 6));
        Check.same("nor does it without strength", 0, rattlesWithoutStrength());
    }

    private static int rattlesWithoutStrength() {
        QuakeRehearsal x = new QuakeRehearsal();
        x.cup(4, 1);
        x.shock();
        return x.propOf(0, 6) + x.propOf(0, 3);
    }

    private static void shockSwingsLamps() {
        Check.begin("promise 8, lamps");
        QuakeRehearsal x = new QuakeRehearsal();
        x.lamp(0, 7);
        x.lamp(1, 8);
        x.lamp(4, 9);
        x.set(3);
        x.shock();
        Check.same("3 and 7 by 3", 4, x.propOf(0, 3));
        Check.same("2 and 8 by 2", 2, x.propOf(1, 3));
        Check.same("not below 0", 0, x.propOf(2, 3));
        x.set(9);
        x.shock();
        Check.same("9 and 7 by 9", 20, x.propOf(0, 3));
        Check.same("20 is not broken", false, x.isBroken(0));
        Check.same("8 and 8 by 8", 10, x.propOf(1, 3));
        Check.same("5 and 9 by 5", 9, x.propOf(2, 3));
        x.set(1);
        x.shock();
        Check.same("more than 20", "l0:7~21!", Check.lineOf(x, 0));
        Check.same("1 less without strength", 9, x.propOf(1, 3));
        Check.same("1 less on the top", 8, x.propOf(2, 3));
        Check.same("what broke", 1, x.account(9));
        x.shock();
        Check.same("the swing stays", "l0:7~21!", Check.lineOf(x, 0));
        Check.same("what broke", 1, x.account(9));
        Check.same("a lamp tells no tally", 0, x.propOf(0, 6));
    }

    private static void shockIsCued() {
        Check.begin("promise 8, cues");
        QuakeRehearsal x = new QuakeRehearsal();
        x.lamp(0, 8);
        x.lamp(1, 8);
        x.cue(0, 9);
        x.cue(1, 8);
        x.set(9);
        x.shock();
        Check.same("half of 17", 8, x.propOf(0, 3));
        Check.same("the strength on the floor does not count", 8, x.propOf(1, 3));
        x.cue(1, 9);
        x.shock();
        Check.same("half of 8 and 17", 12, x.propOf(0, 3));
        Check.same("half of 8 and 8", 8, x.propOf(1, 3));
        x.set(1);
        x.cue(1, 1);
        x.shock();
        Check.same("half of 1 less", 3, x.propOf(1, 3));

        QuakeRehearsal y = new QuakeRehearsal();
        y.lamp(0, 8);
        y.set(9);
        y.shock();
        y.set(3);
        y.cue(0, 3);
        y.shock();
        Check.same("half of 22 does not fall", "l0:8~11#3", Check.lineOf(y, 0));
        Check.same("none broke", 0, y.account(9));

        QuakeRehearsal z = new QuakeRehearsal();
        z.lamp(4, 9);
        z.cat(0, 0);
        z.cat(1, 0);
        z.cat(2, 0);
        z.cat(3, 0);
        z.set(2);
        z.cue(0, 2);
        z.shock();
        Check.same("no strength, no swing", 0, z.propOf(0, 3));
    }

    private static void shockIsMarked() {
        Check.begin("promise 8, marks");
        QuakeRehearsal x = new QuakeRehearsal();
        x.cat(0, 9);
        x.cat(0, 4);
        x.cat(2, 2);
        x.set(5);
        Check.same("shock()", 1 + 4 + 5, x.shock());
        Check.same("as far as 4", 1, x.propOf(0, 6));
        Check.same("as far as 1", 4, x.propOf(1, 6));
        Check.same("what it likes, weakened by 2 and once by cats", 5, x.propOf(2, 6));
        x.set(4);
        Check.same("shock()", 0 + 5 + 4, x.shock());
        Check.same("as far as 5", 1, x.propOf(0, 6));
        x.set(1);
        Check.same("shock()", 0 + 2 + 3, x.shock());
        Check.same("marks so far", 24, x.account(8));
        Check.same("no encores", 0, x.account(7));
        Check.same("shocks so far", 3, x.account(6));
        x.take(1);
        Check.same("marks so far stay", 24, x.account(8));
    }

    private static void shockFrightensCats() {
        Check.begin("promise 8, frightened cats");
        QuakeRehearsal x = new QuakeRehearsal();
        x.cat(0, 4);
        x.cat(0, 0);
        x.cat(1, 3);
        x.cup(0, 1);
        x.cup(0, 1);
        x.set(5);
        x.shock();
        Check.same("shock()", 4 + 0 + 5, x.shock());
        Check.same("shock() that breaks two cups", 0 + 0 + 5, x.shock());
        Check.same("likes 1 less once", 3, x.propOf(0, 2));
        Check.same("not below 0", 0, x.propOf(1, 2));
        Check.same("as ever on another floor", 3, x.propOf(2, 2));
        Check.same("marks of the first", 8, x.propOf(0, 6));
        Check.same("shock() that breaks no more", 3 + 0 + 5, x.shock());

        QuakeRehearsal y = new QuakeRehearsal();
        y.cat(2, 7);
        y.lamp(2, 7);
        y.set(9);
        y.shock();
        Check.same("marks", 5, y.account(8));
        y.shock();
        Check.same("marks", 10, y.account(8));
        Check.same("shock() by which a lamp falls", 0, y.shock());
        Check.same("the lamp", true, y.isBroken(1));
        Check.same("likes", 6, y.propOf(0, 2));

        QuakeRehearsal z = new QuakeRehearsal();
        z.set(9);
        for (int floor = 0; floor <= 4; floor++) {
            z.lamp(floor, 8);
            z.cat(floor, 0);
        }
        for (int i = 0; i < 30; i++) {
            z.shock();
        }
        Check.same("all lamps are broken", 5, z.account(9));
        z.cat(3, 3);
        Check.same("what fell by earlier ones frightens no more", 2 + 5 + 4, z.shock());
        Check.same("likes", 0, z.propOf(1, 2));
    }

    private static void add() {
        Check.begin("promise 9");
        QuakeRehearsal x = new QuakeRehearsal();
        for (int i = 0; i < 8; i++) {
            Check.same("add", i + 1, x.add(9 - i));
        }
        Check.refuses("add(1)", x, 1, 8, () -> x.add(1));
        for (int strength : NO_STRENGTHS) {
            Check.fails("add(" + strength + ")", WRONG, () -> x.add(strength));
        }
        Check.same("the programme", "98765432", Check.programmeOf(x));
        Check.same("changes", 8, x.account(12));
        x.perform();
        Check.same("add(1)", 1, x.add(1));
        Check.same("add(1), again", 2, x.add(1));
    }

    private static void perform() {
        Check.begin("promise 10");
        QuakeRehearsal x = new QuakeRehearsal();
        Check.refuses("perform()", x, 5, 0, () -> x.perform());
        x.cup(0, 4);
        x.add(2);
        x.add(4);
        Check.same("perform()", 0, x.perform());
        Check.same("the first one came first", "c0:3'", Check.lineOf(x, 0));
        Check.same("it rattled by the first", 1, x.propOf(0, 6));
        Check.same("the programme is empty", 0, x.account(10));
        Check.same("shocks", 2, x.account(6));
        Check.same("the set strength is as before", 1, x.account(5));
        Check.refuses("perform()", x, 5, 2, () -> x.perform());
    }

    private static void encores() {
        Check.begin("promise 10, encores");
        QuakeRehearsal x = new QuakeRehearsal();
        x.cat(0, 4);
        x.cat(0, 6);
        x.add(3);
        Check.same("6 marks of two cats: 4 and 2", 1, x.perform());
        Check.same("shocks, encores included", 2, x.account(6));
        Check.same("encores", 1, x.account(7));
        Check.same("marks, the encore's too", 6 + 2, x.account(8));
        x.add(2);
        Check.same("4 marks of two cats", 0, x.perform());
        x.add(5);
        Check.same("8 marks, and none behind an encore", 1, x.perform());
        Check.same("the encore is rounded down", 8 + 4 + 8 + 4, x.account(8));
        Check.same("shocks", 5, x.account(6));
        Check.refuses("perform()", x, 5, 5, () -> x.perform());

        QuakeRehearsal y = new QuakeRehearsal();
        y.cat(0, 2);
        y.add(1);
        y.add(4);
        y.add(9);
        Check.same("none for 1, one of 2 for 4, none for 9", 1, y.perform());
        Check.same("marks", 4 + 3 + 5 + 0, y.account(8));
        Check.same("shocks", 4, y.account(6));

        QuakeRehearsal z = new QuakeRehearsal();
        z.cat(4, 0);
        z.add(2);
        z.add(9);
        Check.same("an encore behind 2 on the top", 1, z.perform());
        Check.same("marks", 5 + 5 + 0, z.account(8));
    }

    private static void quiet() {
        Check.begin("promise 11");
        QuakeRehearsal x = new QuakeRehearsal();
        Check.same("quiet() of an empty hall", 0, x.quiet());
        Check.same("it is a change", 1, x.account(12));
        x.lamp(0, 8);
        x.lamp(1, 9);
        x.lamp(4, 6);
        x.cup(0, 9);
        x.set(9);
        x.shock();
        Check.same("swing", "17 9 6", x.propOf(0, 3) + " " + x.propOf(1, 3) + " " + x.propOf(2, 3));
        Check.same("quiet()", 8 + 4 + 3, x.quiet());
        Check.same("swing", "8 4 3", x.propOf(0, 3) + " " + x.propOf(1, 3) + " " + x.propOf(2, 3));
        x.shock();
        Check.same("the first is broken", "l0:8~25!", Check.lineOf(x, 0));
        Check.same("quiet()", 6 + 4, x.quiet());
        Check.same("a broken one's swing stays", 25, x.propOf(0, 3));
        Check.same("a cup's cracks stay", 2, x.propOf(3, 3));
        Check.same("shocks", 2, x.account(6));
    }

    private static void propOf() {
        Check.begin("promise 12");
        QuakeRehearsal x = new QuakeRehearsal();
        x.cup(1, 6);
        x.lamp(2, 8);
        x.cat(3, 4);
        x.cue(1, 3);
        x.set(6);
        x.shock();
        Check.same("state", "1,1,6,0,0,0,1;2,2,8,4,0,3,0;3,3,4,0,0,0,4; 3 1 1 1 0 6 1 0 4 0 0", Check.stateOf(x));
        Check.fails("propOf(0, -1)", WRONG, () -> x.propOf(0, -1));
        Check.fails("propOf(2, 7)", WRONG, () -> x.propOf(2, 7));
        Check.fails("propOf(3, 7)", NO_PROP, () -> x.propOf(3, 7));
        Check.fails("propOf(-1, 0)", NO_PROP, () -> x.propOf(-1, 0));
        Check.fails("propOf(most, 0)", NO_PROP, () -> x.propOf(Integer.MAX_VALUE, 0));
        x.set(9);
        x.shock();
        x.shock();
        x.shock();
        Check.same("a broken cup", 1, x.propOf(0, 4));
        Check.same("a broken lamp", 1, x.propOf(1, 4));
        Check.same("a cat", 0, x.propOf(2, 4));
    }

    private static void programme() {
        Check.begin("promise 13");
        QuakeRehearsal x = new QuakeRehearsal();
        x.add(7);
        x.add(2);
        Check.same("programme(0)", 7, x.programme(0));
        Check.same("programme(1)", 2, x.programme(1));
        for (int place : new int[] {-1, 2, 8, Integer.MIN_VALUE, Integer.MAX_VALUE}) {
            Check.fails("programme(" + place + ")", NoSuchElementException.class, () -> x.programme(place));
        }
        x.perform();
        Check.fails("programme(0)", NoSuchElementException.class, () -> x.programme(0));
    }
}
