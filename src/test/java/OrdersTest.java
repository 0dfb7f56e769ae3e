import java.util.NoSuchElementException;

/** Promises 22 to 25: orders. */
public final class OrdersTest {
    private static final Class<NoSuchElementException> NO_PLACE = NoSuchElementException.class;
    private static final int[] NO_PLACES = {-1, 6, 12, Integer.MIN_VALUE, Integer.MAX_VALUE};

    private OrdersTest() {
    }

    public static void main(String[] args) {
        cupAt();
        lampAt();
        catAt();
        onFloor();
        Check.end();
    }

    private static void cupAt() {
        Check.begin("promise 22");
        QuakeRehearsal x = new QuakeRehearsal();
        Check.fails("cupAt(0)", NO_PLACE, () -> x.cupAt(0));
        x.lamp(0, 9);
        x.cup(0, 3);
        x.cup(0, 5);
        x.cup(0, 6);
        x.cup(1, 4);
        x.cat(0, 9);
        x.cup(4, 5);
        x.cup(4, 5);
        x.set(5);
        x.shock();
        Check.same("lines", "c0:2' c0:4' c0:6 c1:4 c4:5 c4:5", Check.lineOf(x, 1) + " " + Check.lineOf(x, 2) + " "
            + Check.lineOf(x, 3) + " " + Check.lineOf(x, 4) + " " + Check.lineOf(x, 6) + " " + Check.lineOf(x, 7));
        x.set(4);
        x.shock();
        x.cup(3, 3);
        Check.same("the cups", "3 6 7 4 8 2 1", cups(x, 7));
        for (int place : new int[] {-1, 7, Integer.MIN_VALUE, Integer.MAX_VALUE}) {
            Check.fails("cupAt(" + place + ")", NO_PLACE, () -> x.cupAt(place));
        }
        x.take(6);
        Check.same("the cups", "3 6 4 7 2 1", cups(x, 6));
    }

    private static String cups(QuakeRehearsal x, int count) {
        StringBuilder text = new StringBuilder();
        for (int place = 0; place < count; place++) {
            text.append(place == 0 ? "" : " ").append(x.cupAt(place));
        }
        return text.toString();
    }

    private static void lampAt() {
        Check.begin("promise 23");
        QuakeRehearsal x = new QuakeRehearsal();
        Check.fails("lampAt(0)", NO_PLACE, () -> x.lampAt(0));
        x.cup(0, 9);
        x.lamp(0, 3);
        x.lamp(0, 6);
        x.lamp(0, 2);
        x.lamp(0, 6);
        x.lamp(1, 7);
        x.lamp(4, 9);
        x.set(3);
        x.shock();
        Check.same("swings", "3 3 5 3 3 0", x.propOf(1, 3) + " " + x.propOf(2, 3) + " " + x.propOf(3, 3) + " "
            + x.propOf(4, 3) + " " + x.propOf(5, 3) + " " + x.propOf(6, 3));
        int[] due = {3, 5, 2, 4, 1, 6};
        for (int place = 0; place < 6; place++) {
            Check.same("lampAt(" + place + ")", due[place], x.lampAt(place));
        }
        for (int place : NO_PLACES) {
            Check.fails("lampAt(" + place + ")", NO_PLACE, () -> x.lampAt(place));
        }
    }

    private static void catAt() {
        Check.begin("promise 24");
        QuakeRehearsal x = new QuakeRehearsal();
        Check.fails("catAt(0)", NO_PLACE, () -> x.catAt(0));
        x.cat(0, 9);
        x.cat(0, 4);
        x.cup(0, 9);
        x.cat(0, 6);
        x.cat(0, 5);
        x.cat(3, 9);
        x.cat(2, 3);
        Check.same("without marks the lowest", "0 1", x.catAt(0) + " " + x.catAt(1));
        x.set(5);
        x.shock();
        Check.same("marks", "1 4 4 5 0 4", x.propOf(0, 6) + " " + x.propOf(1, 6) + " " + x.propOf(3, 6) + " "
            + x.propOf(4, 6) + " " + x.propOf(5, 6) + " " + x.propOf(6, 6));
        int[] due = {4, 1, 3, 6, 0, 5};
        for (int place = 0; place < 6; place++) {
            Check.same("catAt(" + place + ")", due[place], x.catAt(place));
        }
        for (int place : NO_PLACES) {
            Check.fails("catAt(" + place + ")", NO_PLACE, () -> x.catAt(place));
        }
    }

    private static void onFloor() {
        Check.begin("promise 25");
        QuakeRehearsal x = new QuakeRehearsal();
        x.cup(0, 1);
        x.cup(0, 1);
        x.lamp(0, 1);
        x.cat(4, 1);
        x.cat(4, 1);
        x.cat(4, 1);
        int[][] due = {{2, 0, 0, 0, 0}, {1, 0, 0, 0, 0}, {0, 0, 0, 0, 3}};
        for (int kind = 1; kind <= 3; kind++) {
            for (int floor = 0; floor <= 4; floor++) {
                Check.same("onFloor(" + kind + ", " + floor + ")", due[kind - 1][floor], x.onFloor(kind, floor));
            }
        }
        for (int kind : new int[] {0, -1, 4, Integer.MIN_VALUE, Integer.MAX_VALUE}) {
            Check.fails("onFloor(" + kind + ", 0)", IllegalArgumentException.class, () -> x.onFloor(kind, 0));
        }
        for (int floor : new int[] {-1, 5, Integer.MIN_VALUE, Integer.MAX_VALUE}) {
            Check.fails("onFloor(1, " + floor + ")", IllegalArgumentException.class, () -> x.onFloor(1, floor));
        }
        x.take(0);
        Check.same("onFloor(1, 0) with one gone", 1, x.onFloor(1, 0));
    }
}
