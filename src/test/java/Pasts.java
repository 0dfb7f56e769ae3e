/** What was done with an object ahead of a call that is looked at. */
final class Pasts {
    private Pasts() {
    }

    static void none(QuakeRehearsal x) {
    }

    /** More than 8 changes, a snapshot, a line, a reason and an error position; four props, each of another kind or floor. */
    static void busy(QuakeRehearsal x) {
        x.cup(0, 9);
        x.lamp(1, 8);
        x.cat(2, 3);
        x.cue(1, 4);
        x.save();
        x.set(5);
        x.shock();
        Check.fails("cue of a cat", UnsupportedOperationException.class, () -> x.cue(2, 1));
        Check.fails("run of sex", IllegalArgumentException.class, () -> Check.run(x, "sex"));
        x.add(6);
        x.add(3);
        x.perform();
        x.add(7);
        x.quiet();
        x.cup(3, 2);
        x.line(1);
    }

    static void busyWithInput(QuakeRehearsal x) {
        busy(x);
        Check.type(x, "set 6");
    }

    /** 12 props: 5 cups on floor 0, 5 lamps on floor 1, 2 cats on floor 2, all numbers different in a kind. */
    static void fullHall(QuakeRehearsal x) {
        for (int i = 1; i <= 5; i++) {
            x.cup(0, i);
            x.lamp(1, 10 - i);
        }
        x.cat(2, 0);
        x.cat(2, 9);
    }

    static void fullProgramme(QuakeRehearsal x) {
        x.cat(0, 4);
        for (int strength = 1; strength <= 8; strength++) {
            x.add(strength);
        }
    }

    /** Prop 0 is a lamp of the swing 34 that fell, cued for 4; prop 1 a cup with 2 cracks. */
    static void fallenLamp(QuakeRehearsal x) {
        x.lamp(0, 8);
        x.cup(0, 9);
        x.cue(0, 4);
        x.set(9);
        x.shock();
        x.shock();
    }
}
