/** "Undo" in the document, save and restore: promises 37 to 39, on both sides of each bound. */
public final class UndoBoundsTest {
    private static final Class<IllegalStateException> NOT_NOW = IllegalStateException.class;

    private UndoBoundsTest() {
    }

    public static void main(String[] args) {
        undoNeedsAChange();
        theLatestEightCanBeUndone();
        undoGoesOnBehindUndo();
        theRingGoesRoundManyTimes();
        onlySuccessfulCallsAreChanges();
        changesThatChangeNothingCount();
        eachChangeIsUndone();
        runIsOneChange();
        restoreNeedsASnapshot();
        restoreForgetsAll();
        saveIsInPlaceOfTheEarlier();
        theSnapshotStays();
        saveIsNoChange();
        saveTellsTheProps();
        memoryIsNeitherUndoneNorSaved();
        Check.end();
    }

    private static void undoNeedsAChange() {
        Check.begin("promise 37: if no change can be undone");
        Twins.stay("undo() at first", Pasts::none, NOT_NOW, x -> x.undo());
        Twins.stay("undo() behind restore()", x -> {
            Pasts.busyWithInput(x);
            x.restore();
        }, NOT_NOW, x -> x.undo());
        Twins.stay("undo() behind all undos", x -> {
            Pasts.busyWithInput(x);
            for (int left = 7; left >= 0; left--) {
                Check.same("undo()", left, x.undo());
            }
        }, NOT_NOW, x -> x.undo());
        QuakeRehearsal x = new QuakeRehearsal();
        x.quiet();
        Check.same("undo() of the only one", 0, x.undo());
        Check.fails("undo() of none", NOT_NOW, () -> x.undo());
    }

    private static void theLatestEightCanBeUndone() {
        Check.begin("the latest 8 can be undone");
        for (int changes = 1; changes <= 20; changes++) {
            QuakeRehearsal x = new QuakeRehearsal();
            for (int i = 1; i <= changes; i++) {
                x.shock();
                Check.same("changes", Math.min(8, i), x.account(12));
            }
            int most = Math.min(8, changes);
            for (int undone = 1; undone <= most; undone++) {
                Check.same("undo()", most - undone, x.undo());
                Check.same("shocks", changes - undone, x.account(6));
                Check.same("changes", most - undone, x.account(12));
            }
            Check.fails("one more", NOT_NOW, () -> x.undo());
            Check.same("shocks", changes - most, x.account(6));
        }
    }

    private static void undoGoesOnBehindUndo() {
        Check.begin("what was undone is gone");
        QuakeRehearsal x = new QuakeRehearsal();
        for (int strength = 2; strength <= 9; strength++) {
            x.set(strength);
        }
        x.undo();
        x.undo();
        Check.same("the strength", 7, x.account(5));
        x.add(3);
        Check.same("changes", 7, x.account(12));
        x.add(4);
        x.add(5);
        Check.same("changes", 8, x.account(12));
        for (int i = 0; i < 3; i++) {
            x.undo();
        }
        Check.same("programme, strength", "0 7", x.account(10) + " " + x.account(5));
        for (int strength = 6; strength >= 2; strength--) {
            x.undo();
            Check.same("the strength", strength, x.account(5));
        }
        Check.fails("the first set", NOT_NOW, () -> x.undo());
    }

    private static void theRingGoesRoundManyTimes() {
        Check.begin("8 of many, again and again");
        QuakeRehearsal x = new QuakeRehearsal();
        int shocks = 0;
        for (int round = 0; round < 9; round++) {
            for (int i = 0; i < 9 + round % 3; i++) {
                x.shock();
                shocks++;
            }
            for (int i = 0; i < 8; i++) {
                Check.same("undo()", 7 - i, x.undo());
                shocks--;
                Check.same("shocks", shocks, x.account(6));
            }
            Check.fails("undo()", NOT_NOW, () -> x.undo());
        }
    }

    private static void onlySuccessfulCallsAreChanges() {
        Check.begin("the changes are the successful calls of cup to quiet and run");
        QuakeRehearsal x = new QuakeRehearsal();
        Pasts.busy(x);
        x.restore();
        Check.same("changes", 0, x.account(12));
        x.append('a');
        x.save();
        x.line(0);
        x.programmeLine();
        x.wouldMark(4);
        x.programmeBreaks();
        x.isWell();
        Check.fails("run()", IllegalArgumentException.class, () -> x.run());
        Check.fails("run()", UnsupportedOperationException.class, () -> Check.run(x, "quiet;set 1"));
        Check.fails("run()", IllegalArgumentException.class, () -> Check.run(x, "quiet;set 0"));
        Check.fails("set(1)", UnsupportedOperationException.class, () -> x.set(1));
        Check.fails("take(9)", IndexOutOfBoundsException.class, () -> x.take(9));
        Check.same("changes", 0, x.account(12));
        Check.fails("undo()", NOT_NOW, () -> x.undo());
    }

    private static void changesThatChangeNothingCount() {
        Check.begin("a successful call is a change, also where nothing is shaken");
        QuakeRehearsal x = new QuakeRehearsal();
        x.quiet();
        Check.same("quiet() of an empty hall", 1, x.account(12));
        x.shock();
        Check.same("shock() in an empty hall", 2, x.account(12));
        Check.run(x, "quiet");
        Check.same("run() of quiet", 3, x.account(12));
        Check.same("undo()", 2, x.undo());
        Check.same("undo()", 1, x.undo());
        Check.same("undo()", 0, x.undo());
    }

    private static void eachChangeIsUndone() {
        Check.begin("undoes the latest change");
        Twins.Act[] changes = {x -> x.cup(0, 1), x -> x.lamp(0, 1), x -> x.cat(0, 1), x -> x.take(0), x -> x.take(3),
            x -> x.cue(1, 9), x -> x.cue(1, 0), x -> x.set(9), x -> x.shock(), x -> x.add(9), x -> x.perform(),
            x -> x.quiet(), x -> Check.run(x, "take 0;cue 0 0;set 1;perform;add 2;cat 0 0;quiet;shock")};
        for (int i = 0; i < changes.length; i++) {
            QuakeRehearsal x = new QuakeRehearsal();
            Pasts.busyWithInput(x);
            if (i == changes.length - 1) {
                x.run();
            }
            String before = Check.stateOf(x);
            changes[i].on(x);
            Check.same("change " + i + " changes something", false, before.equals(Check.stateOf(x)));
            Check.same("undo() of change " + i, 7, x.undo());
            Check.same("the state behind change " + i, before, Check.stateOf(x));
        }
    }

    private static void runIsOneChange() {
        Check.begin("run is one change, however many orders it has");
        QuakeRehearsal x = new QuakeRehearsal();
        for (int i = 1; i <= 9; i++) {
            Check.same("run()", 5, Check.run(x, "shock;add 1;shock;add 2;perform"));
            Check.same("changes", Math.min(8, i), x.account(12));
        }
        for (int i = 8; i >= 1; i--) {
            Check.same("undo()", i - 1, x.undo());
            Check.same("shocks", 4 * i, x.account(6));
        }
        Check.fails("undo() of the first", NOT_NOW, () -> x.undo());
    }

    private static void restoreNeedsASnapshot() {
        Check.begin("promise 39: if there is no snapshot");
        Twins.stay("restore() at first", Pasts::none, NOT_NOW, x -> x.restore());
        Twins.stay("restore() of a full hall", Pasts::fullHall, NOT_NOW, x -> x.restore());
        QuakeRehearsal x = new QuakeRehearsal();
        x.save();
        Check.same("restore() of an empty one", 0, x.restore());
    }

    private static void restoreForgetsAll() {
        Check.begin("restore forgets all");
        QuakeRehearsal x = new QuakeRehearsal();
        Pasts.busy(x);
        Check.same("restore()", 3, x.restore());
        Check.same("changes", 0, x.account(12));
        Check.fails("undo()", NOT_NOW, () -> x.undo());
        Check.same("state", "1,0,9,0,0,0,0;2,1,8,0,0,4,0;3,2,3,0,0,0,0; 3 1 1 1 0 1 0 0 0 0 0", Check.stateOf(x));
        for (int i = 1; i <= 9; i++) {
            x.shock();
            Check.same("changes", Math.min(8, i), x.account(12));
        }
        for (int i = 7; i >= 0; i--) {
            Check.same("undo()", i, x.undo());
        }
        Check.fails("undo()", NOT_NOW, () -> x.undo());
        Check.same("shocks", 1, x.account(6));
    }

    private static void saveIsInPlaceOfTheEarlier() {
        Check.begin("in place of an earlier one");
        QuakeRehearsal x = new QuakeRehearsal();
        Pasts.fullHall(x);
        Check.same("save()", 12, x.save());
        x.take(0);
        x.set(7);
        x.add(2);
        String later = Check.stateOf(x);
        Check.same("save()", 11, x.save());
        x.undo();
        x.undo();
        x.undo();
        Check.same("restore()", 11, x.restore());
        Check.same("state", later, Check.stateOf(x));
    }

    private static void theSnapshotStays() {
        Check.begin("which stays");
        QuakeRehearsal x = new QuakeRehearsal();
        x.cup(0, 5);
        x.add(9);
        x.save();
        String saved = Check.stateOf(x);
        for (int i = 0; i < 5; i++) {
            x.perform();
            x.cat(0, i);
            x.take(0);
            Check.same("restore()", 1, x.restore());
            Check.same("state", saved, Check.stateOf(x));
        }
        Check.same("restore() twice", 1, x.restore());
        Check.same("state", saved, Check.stateOf(x));
    }

    private static void saveIsNoChange() {
        Check.begin("save is no change, and undo goes on behind it");
        QuakeRehearsal x = new QuakeRehearsal();
        x.set(4);
        x.set(5);
        x.save();
        Check.same("changes", 2, x.account(12));
        Check.same("undo()", 1, x.undo());
        Check.same("the strength", 4, x.account(5));
        Check.same("restore()", 0, x.restore());
        Check.same("the strength", 5, x.account(5));
        Check.same("changes", 0, x.account(12));
    }

    private static void saveTellsTheProps() {
        Check.begin("promises 38 and 39: the props");
        QuakeRehearsal x = new QuakeRehearsal();
        for (int props = 0; props <= 12; props++) {
            Check.same("save()", props, x.save());
            Check.same("restore()", props, x.restore());
            if (props < 12) {
                Check.place(x, 1 + props % 3, props % 5, 5);
            }
        }
        x.take(3);
        Check.same("restore()", 12, x.restore());
        Check.same("props", 12, x.account(0));
    }

    private static void memoryIsNeitherUndoneNorSaved() {
        Check.begin("the input, the line, the error position and the reason are neither undone nor saved, and stay");
        QuakeRehearsal x = new QuakeRehearsal();
        x.lamp(2, 1);
        x.save();
        x.set(5);
        Check.fails("run()", IllegalArgumentException.class, () -> Check.run(x, "quiet;qu;"));
        Check.fails("set(5)", UnsupportedOperationException.class, () -> x.set(5));
        x.line(0);
        Check.type(x, "set 9");
        checkMemory(x);
        x.undo();
        checkMemory(x);
        x.restore();
        checkMemory(x);
        x.save();
        checkMemory(x);
        x.take(0);
        checkMemory(x);
        Check.same("run()", 1, x.run());
        Check.same("errorPosition() of the latest", -1, x.errorPosition());
        Check.same("the input of the latest", 0, x.account(11));
        Check.same("the strength", 9, x.account(5));
    }

    private static void checkMemory(QuakeRehearsal x) {
        Check.same("errorPosition()", 8, x.errorPosition());
        Check.same("refusal", "3 5", x.refusal(false) + " " + x.refusal(true));
        Check.same("the input", 5, x.account(11));
        StringBuilder line = new StringBuilder();
        for (int i = 0; i < 6; i++) {
            line.append(x.character(i));
        }
        Check.same("the line", "l2:1~0", line.toString());
        Check.fails("character(6)", IndexOutOfBoundsException.class, () -> x.character(6));
    }
}
