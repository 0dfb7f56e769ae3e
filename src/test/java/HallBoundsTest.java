/** "Hall" in the document, on both sides of each bound: floors, numbers of props, how many there may be. */
public final class HallBoundsTest {
    private static final Class<IllegalArgumentException> WRONG = IllegalArgumentException.class;
    private static final Class<IndexOutOfBoundsException> NO_PROP = IndexOutOfBoundsException.class;
    private static final String[] KINDS = {"", "cup", "lamp", "cat"};
    private static final int[] NO_FLOORS = {-1, 5, 256, -256, Integer.MIN_VALUE, Integer.MAX_VALUE};

    private HallBoundsTest() {
    }

    public static void main(String[] args) {
        aNewHallIsEmpty();
        floorsAre0To4();
        gradesAndLengthsAre1To9();
        catsLike0To9();
        aFloorHasFivePropsOfAKind();
        aFloorHasFivePropsOfEachKind();
        aHallHasTwelveProps();
        aFullHallIsToldAheadOfAFullFloor();
        brokenPropsCountToo();
        propsAreNumberedAsTheyCame();
        laterNumbersBecomeOneLess();
        takeNeedsAProp();
        takeTellsHowManyAreLeft();
        onFloorNeedsAKindAndAFloor();
        onFloorTellsNoneToFive();
        Check.end();
    }

    private static void aNewHallIsEmpty() {
        Check.begin("promise 1: without props, cats and a programme, with the strength 1");
        QuakeRehearsal x = new QuakeRehearsal();
        for (int what = 0; what <= 12; what++) {
            Check.same("account(" + what + ")", what == 5 ? 1 : 0, x.account(what));
        }
        Check.fails("line(0)", NO_PROP, () -> x.line(0));
        Check.fails("character(0)", NO_PROP, () -> x.character(0));
        Check.same("programmeLine()", 0, x.programmeLine());
        Check.same("errorPosition()", -1, x.errorPosition());
        Check.same("isWell()", true, x.isWell());
    }

    private static void floorsAre0To4() {
        Check.begin("the hall has the floors 0 to 4");
        for (int kind = 1; kind <= 3; kind++) {
            QuakeRehearsal x = new QuakeRehearsal();
            for (int floor = 0; floor <= 4; floor++) {
                Check.same(KINDS[kind] + " on floor " + floor, floor, Check.place(x, kind, floor, 5));
                Check.same("its floor", floor, x.propOf(floor, 1));
                Check.same("its kind", kind, x.propOf(floor, 0));
            }
            for (int floor : NO_FLOORS) {
                wrongPlace(kind, floor, 5);
            }
        }
    }

    private static void wrongPlace(int kind, int floor, int number) {
        String call = KINDS[kind] + "(" + floor + ", " + number + ")";
        Twins.stay(call, Pasts::busyWithInput, WRONG, x -> Check.place(x, kind, floor, number));
        Twins.stay(call + " in a full hall", Pasts::fullHall, WRONG, x -> Check.place(x, kind, floor, number));
        Twins.stay(call + " at first", Pasts::none, WRONG, x -> Check.place(x, kind, floor, number));
    }

    private static void gradesAndLengthsAre1To9() {
        Check.begin("a cup has a grade from 1 to 9, a lamp a length from 1 to 9");
        for (int kind = 1; kind <= 2; kind++) {
            QuakeRehearsal x = new QuakeRehearsal();
            for (int number = 1; number <= 9; number++) {
                Check.same(KINDS[kind], number - 1, Check.place(x, kind, number / 2, number));
                Check.same("its number", number, x.propOf(number - 1, 2));
                Check.same("no cracks or swing at first", 0, x.propOf(number - 1, 3));
            }
            for (int number : new int[] {0, 10, -1, 257, Integer.MIN_VALUE, Integer.MAX_VALUE}) {
                wrongPlace(kind, 0, number);
            }
        }
    }

    private static void catsLike0To9() {
        Check.begin("a cat likes a strength from 0 to 9");
        QuakeRehearsal x = new QuakeRehearsal();
        for (int likes = 0; likes <= 9; likes++) {
            Check.same("cat", likes, x.cat(likes / 2, likes));
            Check.same("what it likes", likes, x.propOf(likes, 2));
        }
        for (int likes : new int[] {-1, 10, 256, Integer.MIN_VALUE, Integer.MAX_VALUE}) {
            wrongPlace(3, 0, likes);
        }
    }

    private static void aFloorHasFivePropsOfAKind() {
        Check.begin("on each floor stand at most 5 props of each kind");
        for (int kind = 1; kind <= 3; kind++) {
            for (int floor = 0; floor <= 4; floor++) {
                checkFullFloor(kind, floor);
            }
        }
    }

    private static void checkFullFloor(int kind, int floor) {
        String call = "the sixth " + KINDS[kind] + " on floor " + floor;
        Twins.refuse(call, y -> fillFloor(y, kind, floor), 2, floor, y -> Check.place(y, kind, floor, 1));
        Twins.stay(call + " that is wrong", y -> fillFloor(y, kind, floor), WRONG, y -> Check.place(y, kind, floor, 10));
        QuakeRehearsal x = new QuakeRehearsal();
        fillFloor(x, kind, floor);
        Check.same("the same kind elsewhere", 5, Check.place(x, kind, (floor + 1) % 5, 1));
        Check.same("the same kind elsewhere", 6, Check.place(x, kind, (floor + 4) % 5, 1));
        x.take(2);
        Check.same("the fifth again", 6, Check.place(x, kind, floor, 1));
        Check.refuses(call, x, 2, floor, () -> Check.place(x, kind, floor, 1));
    }

    private static void fillFloor(QuakeRehearsal x, int kind, int floor) {
        for (int i = 0; i < 5; i++) {
            Check.same(KINDS[kind] + " on floor " + floor, i, Check.place(x, kind, floor, 1 + i));
        }
    }

    private static void aFloorHasFivePropsOfEachKind() {
        Check.begin("5 of each kind, not 5 together");
        for (int kind = 1; kind <= 3; kind++) {
            QuakeRehearsal x = new QuakeRehearsal();
            int full = kind;
            int next = full % 3 + 1;
            fillFloor(x, full, 2);
            int last = next % 3 + 1;
            for (int i = 5; i < 10; i++) {
                Check.same(KINDS[next], i, Check.place(x, next, 2, 1));
            }
            Check.same(KINDS[last], 10, Check.place(x, last, 2, 1));
            Check.refuses(KINDS[full], x, 2, 2, () -> Check.place(x, full, 2, 1));
            Check.refuses(KINDS[next], x, 2, 2, () -> Check.place(x, next, 2, 1));
            Check.same(KINDS[last], 11, Check.place(x, last, 2, 1));
        }
    }

    private static void aHallHasTwelveProps() {
        Check.begin("at most 12 props are there in all");
        for (int last = 1; last <= 3; last++) {
            QuakeRehearsal x = new QuakeRehearsal();
            Pasts.fullHall(x);
            x.take(0);
            Check.same("the 12th, a " + KINDS[last], 11, Check.place(x, last, 4, 9));
            for (int kind = 1; kind <= 3; kind++) {
                int thirteenth = kind;
                String call = "the 13th, a " + KINDS[kind];
                Check.refuses(call, x, 1, 12, () -> Check.place(x, thirteenth, 3, 9));
                Twins.refuse(call, Pasts::fullHall, 1, 12, y -> Check.place(y, thirteenth, 3, 9));
            }
            Check.same("props", 12, x.account(0));
            x.take(11);
            Check.same("the 12th again", 11, Check.place(x, last, 4, 9));
        }
    }

    private static void aFullHallIsToldAheadOfAFullFloor() {
        Check.begin("reason 1 ahead of 2");
        for (int kind = 1; kind <= 3; kind++) {
            int full = kind;
            int other = kind % 3 + 1;
            QuakeRehearsal x = new QuakeRehearsal();
            fillFloor(x, full, 4);
            for (int i = 5; i < 11; i++) {
                Check.same("another", i, Check.place(x, other, i % 2, 3));
            }
            Check.refuses("11 props and a full floor", x, 2, 4, () -> Check.place(x, full, 4, 1));
            Check.same("the 12th", 11, Check.place(x, other, 2, 3));
            Check.refuses("12 props and a full floor", x, 1, 12, () -> Check.place(x, full, 4, 1));
            Check.refuses("12 props and an empty floor", x, 1, 12, () -> Check.place(x, full, 3, 1));
            x.take(11);
            Check.refuses("11 props again", x, 2, 4, () -> Check.place(x, full, 4, 1));
        }
    }

    private static void brokenPropsCountToo() {
        Check.begin("broken props stand on their floor until they are taken");
        QuakeRehearsal x = new QuakeRehearsal();
        for (int i = 0; i < 5; i++) {
            x.cup(0, 1);
            x.lamp(0, 8);
        }
        x.set(9);
        x.shock();
        x.shock();
        x.shock();
        Check.same("broken", 10, x.account(4));
        Check.refuses("the sixth cup", x, 2, 0, () -> x.cup(0, 1));
        Check.refuses("the sixth lamp", x, 2, 0, () -> x.lamp(0, 1));
        Check.same("on the floor", "5 5", x.onFloor(1, 0) + " " + x.onFloor(2, 0));
        x.cat(1, 1);
        x.cat(1, 1);
        Check.refuses("the 13th", x, 1, 12, () -> x.cat(1, 1));
        Check.same("take of a broken one", 11, x.take(0));
        Check.same("broken", 9, x.account(4));
        Check.same("the 12th", 11, x.cup(0, 1));
    }

    private static void propsAreNumberedAsTheyCame() {
        Check.begin("numbered from 0 in the order in which they came");
        QuakeRehearsal x = new QuakeRehearsal();
        for (int i = 0; i < 12; i++) {
            Check.same("a prop", i, Check.place(x, 1 + i % 3, 4 - i / 3, 1 + i % 9));
        }
        for (int i = 0; i < 12; i++) {
            String told = x.propOf(i, 0) + " " + x.propOf(i, 1) + " " + x.propOf(i, 2);
            Check.same("prop " + i, (1 + i % 3) + " " + (4 - i / 3) + " " + (1 + i % 9), told);
        }
    }

    private static void laterNumbersBecomeOneLess() {
        Check.begin("when one goes, the numbers of the later ones become 1 less");
        for (int gone = 0; gone < 12; gone++) {
            QuakeRehearsal x = new QuakeRehearsal();
            Pasts.fullHall(x);
            x.set(5);
            x.shock();
            x.cue(3, 9);
            String[] lines = new String[12];
            for (int i = 0; i < 12; i++) {
                lines[i] = Check.lineOf(x, i) + " " + x.propOf(i, 6);
            }
            Check.same("take(" + gone + ")", 11, x.take(gone));
            for (int i = 0; i < 11; i++) {
                String due = i < gone ? lines[i] : lines[i + 1];
                Check.same("prop " + i + " without " + gone, due, Check.lineOf(x, i) + " " + x.propOf(i, 6));
            }
            Check.fails("line(11)", NO_PROP, () -> x.line(11));
        }
    }

    private static void takeNeedsAProp() {
        Check.begin("promise 5: if there is no such prop");
        for (int prop : new int[] {-1, 0, 1, Integer.MIN_VALUE, Integer.MAX_VALUE}) {
            Twins.stay("take(" + prop + ") at first", Pasts::none, NO_PROP, x -> x.take(prop));
        }
        for (int prop : new int[] {-1, 4, 5, 11, 12, 256, Integer.MIN_VALUE, Integer.MAX_VALUE}) {
            Twins.stay("take(" + prop + ") of 4", Pasts::busyWithInput, NO_PROP, x -> x.take(prop));
        }
        for (int prop : new int[] {-1, 12, 13}) {
            Twins.stay("take(" + prop + ") of 12", Pasts::fullHall, NO_PROP, x -> x.take(prop));
        }
    }

    private static void takeTellsHowManyAreLeft() {
        Check.begin("promise 5: how many props there are then");
        QuakeRehearsal first = new QuakeRehearsal();
        QuakeRehearsal last = new QuakeRehearsal();
        Pasts.fullHall(first);
        Pasts.fullHall(last);
        for (int left = 11; left >= 0; left--) {
            Check.same("take(0)", left, first.take(0));
            Check.same("take(" + left + ")", left, last.take(left));
            Check.same("props", left, first.account(0));
        }
        Check.fails("take(0) of none", NO_PROP, () -> first.take(0));
        Check.same("a prop again", 0, first.cat(0, 0));
    }

    private static void onFloorNeedsAKindAndAFloor() {
        Check.begin("promise 25: if there is no such kind or floor");
        for (int kind : new int[] {0, -1, 4, 257, Integer.MIN_VALUE, Integer.MAX_VALUE}) {
            Twins.stay("onFloor(" + kind + ", 0)", Pasts::busy, WRONG, x -> x.onFloor(kind, 0));
            Twins.stay("onFloor(" + kind + ", 5)", Pasts::busy, WRONG, x -> x.onFloor(kind, 5));
        }
        for (int floor : NO_FLOORS) {
            for (int kind = 1; kind <= 3; kind++) {
                int told = kind;
                Twins.stay("onFloor(" + kind + ", " + floor + ")", Pasts::busy, WRONG, x -> x.onFloor(told, floor));
            }
        }
    }

    private static void onFloorTellsNoneToFive() {
        Check.begin("promise 25: how many props of a kind are on a floor");
        for (int kind = 1; kind <= 3; kind++) {
            for (int floor = 0; floor <= 4; floor++) {
                QuakeRehearsal x = new QuakeRehearsal();
                Check.same("none", 0, x.onFloor(kind, floor));
                for (int count = 1; count <= 5; count++) {
                    Check.place(x, kind, floor, 1);
                    Check.same("onFloor(" + kind + ", " + floor + ")", count, x.onFloor(kind, floor));
                }
                Check.same("another kind", 0, x.onFloor(kind % 3 + 1, floor));
                Check.same("another floor", 0, x.onFloor(kind, (floor + 1) % 5));
                x.take(4);
                Check.same("one is gone", 4, x.onFloor(kind, floor));
            }
        }
    }
}
