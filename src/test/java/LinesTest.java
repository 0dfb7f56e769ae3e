import java.util.NoSuchElementException;

/** Promises 26 to 39: lines, texts, accounts, undo and snapshot. */
public final class LinesTest {
    private static final Class<IllegalArgumentException> WRONG = IllegalArgumentException.class;
    private static final Class<IndexOutOfBoundsException> NO_PROP = IndexOutOfBoundsException.class;
    private static final Class<IllegalStateException> NOT_NOW = IllegalStateException.class;

    private LinesTest() {
    }

    public static void main(String[] args) {
        line();
        programmeLine();
        character();
        append();
        runsAllOrders();
        runReadsTwoDigits();
        runIsWholeOrNothing();
        runTellsRefusals();
        runTellsWrongOrders();
        errorPositions();
        errorPositionStays();
        refusal();
        account();
        isWell();
        meanGrade();
        brokenShare();
        undo();
        undoTakesBackEachChange();
        save();
        restore();
        Check.end();
    }

    private static void line() {
        Check.begin("promise 26");
        QuakeRehearsal x = new QuakeRehearsal();
        Check.fails("line(0)", NO_PROP, () -> x.line(0));
        x.cup(2, 5);
        x.lamp(0, 7);
        x.cat(4, 6);
        x.cat(3, 0);
        Check.same("a cup", "c2:5", Check.lineOf(x, 0));
        Check.same("a lamp", "l0:7~0", Check.lineOf(x, 1));
        Check.same("a cat", "k4:6", Check.lineOf(x, 2));
        Check.same("a cat that likes none", "k3:0", Check.lineOf(x, 3));
        x.cue(1, 3);
        x.set(9);
        x.shock();
        Check.same("a cracked cup", "c2:4'", Check.lineOf(x, 0));
        Check.same("a swinging, cued lamp", "l0:7~16#3", Check.lineOf(x, 1));
        x.shock();
        x.shock();
        Check.same("a broken cup", "c2:2'''!", Check.lineOf(x, 0));
        Check.same("a broken, cued lamp", "l0:7~32#3!", Check.lineOf(x, 1));
        Check.same("the length", 10, x.line(1));
        Check.fails("line(-1)", NO_PROP, () -> x.line(-1));
        Check.fails("line(4)", NO_PROP, () -> x.line(4));
        Check.same("the line stays", '!', x.character(9));
        x.take(1);
        Check.same("the line is not told anew", 'l', x.character(0));
    }

    private static void programmeLine() {
        Check.begin("promise 27");
        QuakeRehearsal x = new QuakeRehearsal();
        Check.same("an empty programme", 0, x.programmeLine());
        for (int strength = 1; strength <= 8; strength++) {
            x.add(strength);
        }
        Check.same("its length", 8, x.programmeLine());
        Check.same("a full programme", "12345678", Check.programmeOf(x));
        x.cat(1, 1);
        Check.same("a prop's line in its place", "k1:1", Check.lineOf(x, 0));
        x.perform();
        Check.same("an empty programme", "", Check.programmeOf(x));
    }

    private static void character() {
        Check.begin("promise 28");
        QuakeRehearsal x = new QuakeRehearsal();
        Check.fails("character(0)", NO_PROP, () -> x.character(0));
        x.cat(1, 2);
        x.line(0);
        Check.same("characters", "k1:2", "" + x.character(0) + x.character(1) + x.character(2) + x.character(3));
        for (int index : new int[] {-1, 4, 15, 16, Integer.MIN_VALUE, Integer.MAX_VALUE}) {
            Check.fails("character(" + index + ")", NO_PROP, () -> x.character(index));
        }
        x.undo();
        Check.same("the line is not undone", '2', x.character(3));
        x.programmeLine();
        Check.fails("character(0)", NO_PROP, () -> x.character(0));
    }

    private static void append() {
        Check.begin("promise 29");
        QuakeRehearsal x = new QuakeRehearsal();
        for (int i = 1; i <= 60; i++) {
            Check.same("append", i, x.append((char) (i % 2 == 0 ? 65535 : 0)));
        }
        Check.fails("append, the 61st", NOT_NOW, () -> x.append('a'));
        Check.same("the input", 60, x.account(11));
        Check.same("changes", 0, x.account(12));
        Check.fails("run()", WRONG, () -> x.run());
        Check.same("the input", 0, x.account(11));
        Check.same("append, the first", 1, x.append('a'));
    }

    private static void runsAllOrders() {
        Check.begin("promise 30, all orders");
        QuakeRehearsal x = new QuakeRehearsal();
        String text = "cup 0 3;lamp 1 7;cat 2 0;cup 4 9;take 3;cue 1 5;set 5;shock";
        Check.same("run()", 8, Check.run(x, text));
        Check.same("state", "1,0,2,1,0,0,0;2,1,7,3,0,5,0;3,2,0,0,0,0,2; 3 1 1 1 0 5 1 0 2 0 0", Check.stateOf(x));
        Check.same("run()", 4, Check.run(x, "quiet;add 2;add 9;perform"));
        Check.same("the lamp", "l1:7~16#5", Check.lineOf(x, 1));
        Check.same("the cup", "c0:1'''!", Check.lineOf(x, 0));
        Check.same("encores", 1, x.account(7));
        Check.same("one change each", 2, x.account(12));
        Check.same("the error position", -1, x.errorPosition());
        Check.same("the input", 0, x.account(11));
        Check.same("two digits, and 0 takes the cue away", 1, Check.run(x, "cue 01 0"));
        Check.same("the lamp", "l1:7~16", Check.lineOf(x, 1));
        Check.same("two digits", 1, Check.run(x, "take 02"));
        Check.same("ten orders", 10, Check.run(x, "shock;shock;shock;shock;shock;quiet;quiet;quiet;quiet;quiet"));
        Check.same("60 characters", 10, Check.run(x, "shock;shock;shock;shock;shock;shock;shock;shock;shock;take 0"));
        Check.same("changes", 6, x.account(12));
    }

    private static void runReadsTwoDigits() {
        Check.begin("promise 30, two digits");
        QuakeRehearsal x = new QuakeRehearsal();
        for (int i = 0; i < 10; i++) {
            x.cup(i / 2, 1);
        }
        x.lamp(2, 3);
        x.lamp(4, 5);
        Check.same("cue 10", 1, Check.run(x, "cue 10 7"));
        Check.same("the lamps", "l2:3~0#7 l4:5~0", Check.lineOf(x, 10) + " " + Check.lineOf(x, 11));
        Check.same("take 10", 1, Check.run(x, "take 10"));
        Check.same("the other lamp", "l4:5~0", Check.lineOf(x, 10));
        Check.same("cue 10 and take 00", 2, Check.run(x, "cue 10 1;take 00"));
        Check.same("the other lamp", "l4:5~0#1", Check.lineOf(x, 9));
    }

    private static void runIsWholeOrNothing() {
        Check.begin("promise 30, whole or nothing");
        QuakeRehearsal x = new QuakeRehearsal();
        x.cup(0, 3);
        x.lamp(0, 4);
        x.cat(0, 5);
        x.add(7);
        for (int i = 0; i < 8; i++) {
            x.shock();
        }
        String before = Check.stateOf(x);
        Check.fails("run()", WRONG, () -> Check.run(x, "cup 1 1;cue 1 4;take 0;set 4;add 3;perform;shock;take 9"));
        Check.same("state", before, Check.stateOf(x));
        Check.fails("run()", UnsupportedOperationException.class,
            () -> Check.run(x, "cup 1 1;cue 1 4;take 0;set 4;add 3;perform;quiet;set 4"));
        Check.same("state", before, Check.stateOf(x));
        Check.fails("run() with an error at its end", WRONG, () -> Check.run(x, "shock;shock;shock;"));
        Check.same("state", before, Check.stateOf(x));
        Check.same("changes", 8, x.account(12));
        for (int i = 8; i > 0; i--) {
            Check.same("undo()", i - 1, x.undo());
            Check.same("shocks", i - 1, x.account(6));
        }
    }

    private static void runTellsRefusals() {
        Check.begin("promise 30, refusals");
        QuakeRehearsal x = new QuakeRehearsal();
        x.lamp(3, 8);
        x.cup(2, 1);
        Check.refuses("so already", x, 3, 1, () -> Check.run(x, "set 1"));
        Check.same("the error position", -1, x.errorPosition());
        Check.refuses("no cue", x, 3, 0, () -> Check.run(x, "cue 0 0"));
        Check.refuses("no lamp", x, 4, 2, () -> Check.run(x, "cue 1 0"));
        Check.refuses("an empty programme", x, 5, 0, () -> Check.run(x, "perform;shock"));
        Check.refuses("an empty programme behind two shocks", x, 5, 2, () -> Check.run(x, "shock;shock;perform"));
        Check.refuses("a full floor", x, 2, 0,
            () -> Check.run(x, "cat 0 1;cat 0 1;cat 0 1;cat 0 1;cat 0 1;cat 0 1;set 1"));
        Check.refuses("a full programme", x, 1, 8,
            () -> Check.run(x, "add 1;add 1;add 1;add 1;add 1;add 1;add 1;add 1;add 1"));
        Check.refuses("a broken lamp", x, 6, 24, () -> Check.run(x, "set 9;shock;shock;shock;cue 0 1"));
        for (int i = 0; i < 5; i++) {
            x.lamp(0, 1);
            x.cat(0, 1);
        }
        Check.refuses("a full hall", x, 1, 12, () -> Check.run(x, "lamp 1 1"));
        Check.refuses("the first one decides", x, 3, 1, () -> Check.run(x, "set 1;cup 9 9"));
    }

    private static void runTellsWrongOrders() {
        Check.begin("promise 30, wrong orders");
        QuakeRehearsal x = new QuakeRehearsal();
        x.lamp(0, 1);
        String[] texts = {"cup 5 1", "cup 0 0", "lamp 9 1", "lamp 4 0", "cat 5 0", "take 1", "take 01", "take 99",
            "cue 1 0", "cue 10 0", "set 0", "add 0", "cup 5 1;perform", "take 0;take 0"};
        for (String text : texts) {
            Check.fails("run of " + text, WRONG, () -> Check.run(x, text));
            Check.same("the error position of " + text, -1, x.errorPosition());
            Check.same("the input", 0, x.account(11));
        }
        Check.fails("refusal(false)", NoSuchElementException.class, () -> x.refusal(false));
        Check.same("a cat likes 0", 1, Check.run(x, "cat 0 0"));
        Check.same("changes", 2, x.account(12));
    }

    private static void errorPositions() {
        Check.begin("promise 31");
        Object[][] due = {
            {"", 0}, {"x", 0}, {" cup 0 1", 0}, {";", 0}, {"1", 0}, {"Cup 1 1", 0}, {"ucup 1 1", 0},
            {"c", 1}, {"cx", 1}, {"cu", 2}, {"cux", 2}, {"cup", 3}, {"cups 1 1", 3}, {"cup;", 3}, {"cup ", 4},
            {"cup x", 4}, {"cup  1 1", 4}, {"cup -1 1", 4}, {"cup 1", 5}, {"cup 12", 5}, {"cup 1;", 5}, {"cup 1 ", 6},
            {"cup 1 x", 6}, {"cup 1  1", 6}, {"cup 1 12", 7}, {"cup 1 1 ", 7}, {"cup 1 1 1", 7}, {"cup 1 1;", 8},
            {"cup 1 1;;", 8}, {"cup 1 1; cup 1 1", 8}, {"cup 1 1;cup 1 1;c", 17}, {"cup 1 1cup 1 1", 7},
            {"ca", 2}, {"cax", 2}, {"cat", 3}, {"cat 1", 5}, {"cat 1 12", 7}, {"cta", 1},
            {"l", 1}, {"la", 2}, {"lamb 1 1", 3}, {"lamp1", 4}, {"lamp 1 1 1", 8},
            {"t", 1}, {"ta", 2}, {"tax", 2}, {"tak", 3}, {"take", 4}, {"take ", 5}, {"take x", 5}, {"take 1;", 7},
            {"take 123", 7}, {"take 1 1", 6}, {"take 1x", 6}, {"take 12 ", 7},
            {"cue", 3}, {"cue 1", 5}, {"cue 1;", 5}, {"cue 12", 6}, {"cue 12;", 6}, {"cue 123 1", 6}, {"cue 12 ", 7},
            {"cue 1 12", 7}, {"cue 12 12", 8}, {"cue 1 1 1", 7}, {"cue  1 1", 4},
            {"s", 1}, {"sx", 1}, {"se", 2}, {"sex", 2}, {"set", 3}, {"sets", 3}, {"set ", 4}, {"set 12", 5},
            {"set 1 1", 5}, {"sh", 2}, {"shoc", 4}, {"shocks", 5}, {"shock 1", 5}, {"shock;", 6}, {"shock ;", 5},
            {"a", 1}, {"ad", 2}, {"adx", 2}, {"add", 3}, {"add x", 4}, {"add 11", 5},
            {"p", 1}, {"perf", 4}, {"perforn", 6}, {"performs", 7}, {"perform 1", 7}, {"shock;perform;x", 14},
            {"q", 1}, {"qq", 1}, {"quie", 4}, {"quiets", 5}, {"quiet ", 5},
            {"set \u0130", 4}, {"set \u0661", 4}, {"\u0163up 1 1", 0}, {"set\u01201", 3}, {"shock\u0000", 5},
            {"shock;shock;shock;shock;shock;shock;shock;shock;shock;shock;", 60},
            {"shock;shock;shock;shock;shock;shock;shock;shock;shock;take 0", -1},
            {"cup 9 9;take 99;cue 99 9;set 0;add 0", -1}, {"perform", -1}, {"quiet", -1},
        };
        for (Object[] row : due) {
            QuakeRehearsal x = new QuakeRehearsal();
            String text = (String) row[0];
            Check.type(x, text);
            try {
                x.run();
            } catch (IllegalArgumentException | UnsupportedOperationException e) {
                Check.same("the changes of " + text, 0, x.account(12));
            }
            Check.same("the error position of " + text, row[1], x.errorPosition());
        }
    }

    private static void errorPositionStays() {
        Check.begin("promise 31, it stays");
        QuakeRehearsal x = new QuakeRehearsal();
        Check.same("at first", -1, x.errorPosition());
        x.save();
        x.cup(0, 1);
        Check.fails("run()", WRONG, () -> Check.run(x, "cuq"));
        Check.same("of the latest", 2, x.errorPosition());
        Check.type(x, "set 5");
        Check.same("input does not change it", 2, x.errorPosition());
        x.undo();
        x.restore();
        Check.same("nor do undo and restore", 2, x.errorPosition());
        Check.same("the input stays, too", 5, x.account(11));
        Check.same("run()", 1, x.run());
        Check.same("of the latest", -1, x.errorPosition());
    }

    private static void refusal() {
        Check.begin("promise 32");
        QuakeRehearsal x = new QuakeRehearsal();
        Check.fails("refusal(false)", NoSuchElementException.class, () -> x.refusal(false));
        Check.fails("refusal(true)", NoSuchElementException.class, () -> x.refusal(true));
        Check.fails("set(0)", WRONG, () -> x.set(0));
        Check.fails("refusal(true)", NoSuchElementException.class, () -> x.refusal(true));
        x.save();
        x.cat(4, 0);
        Check.refuses("cue(0, 1)", x, 4, 4, () -> x.cue(0, 1));
        Check.same("changes", 1, x.account(12));
        x.set(6);
        Check.fails("cue(0, 11)", WRONG, () -> x.cue(0, 11));
        x.undo();
        x.restore();
        Check.same("the reason stays", 4, x.refusal(false));
        Check.same("the detail stays", 4, x.refusal(true));
        Check.refuses("set(1)", x, 3, 1, () -> x.set(1));
    }

    private static void account() {
        Check.begin("promise 33");
        QuakeRehearsal x = new QuakeRehearsal();
        x.cup(0, 2);
        x.cup(1, 9);
        x.cup(2, 9);
        x.lamp(0, 8);
        x.lamp(1, 1);
        x.cat(0, 4);
        x.set(4);
        x.shock();
        x.add(4);
        x.add(9);
        x.perform();
        x.add(3);
        Check.type(x, "set");
        int[] due = {6, 3, 2, 1, 2, 4, 4, 1, 5 + 5 + 0 + 0, 2, 1, 3, 8};
        for (int what = 0; what <= 12; what++) {
            Check.same("account(" + what + ")", due[what], x.account(what));
        }
        for (int what : new int[] {-1, 13, Integer.MIN_VALUE, Integer.MAX_VALUE}) {
            Check.fails("account(" + what + ")", WRONG, () -> x.account(what));
        }
    }

    private static void isWell() {
        Check.begin("promise 34");
        QuakeRehearsal x = new QuakeRehearsal();
        Check.same("a new one", true, x.isWell());
        x.cup(0, 2);
        x.cup(1, 9);
        x.lamp(0, 8);
        x.lamp(1, 9);
        x.cat(0, 4);
        x.cat(2, 7);
        x.cue(2, 9);
        for (int strength = 9; strength > 1; strength--) {
            x.set(strength);
            x.shock();
            Check.same("behind a shock of " + strength, true, x.isWell());
        }
        x.quiet();
        x.take(4);
        Check.same("broken ones", true, x.isBroken(0) && x.isBroken(2));
        Check.same("isWell()", true, x.isWell());
    }

    private static void meanGrade() {
        Check.begin("promise 35");
        QuakeRehearsal x = new QuakeRehearsal();
        Check.fails("meanGrade()", ArithmeticException.class, () -> x.meanGrade());
        x.lamp(0, 9);
        x.cat(0, 9);
        Check.fails("meanGrade() without cups", ArithmeticException.class, () -> x.meanGrade());
        x.cup(0, 1);
        Check.same("meanGrade()", 1.0, x.meanGrade());
        x.cup(0, 4);
        x.cup(0, 5);
        Check.same("meanGrade()", 10.0 / 3.0, x.meanGrade());
        x.set(4);
        x.shock();
        Check.same("meanGrade() of cracked ones", 9.0 / 3.0, x.meanGrade());
        x.take(2);
        Check.same("meanGrade()", 4.0, x.meanGrade());
        x.take(0);
        x.take(0);
        Check.same("meanGrade() with cups alone", 4.0, x.meanGrade());
    }

    private static void brokenShare() {
        Check.begin("promise 36");
        QuakeRehearsal x = new QuakeRehearsal();
        Check.fails("brokenShare()", ArithmeticException.class, () -> x.brokenShare());
        x.cat(0, 9);
        Check.same("brokenShare()", 0.0f, x.brokenShare());
        x.lamp(0, 8);
        x.cup(0, 9);
        x.set(9);
        x.shock();
        x.shock();
        Check.same("brokenShare() with a lamp", 1.0f / 3.0f, x.brokenShare());
        x.shock();
        Check.same("brokenShare() with a cup", 2.0f / 3.0f, x.brokenShare());
        x.take(0);
        Check.same("brokenShare() of all", 1.0f, x.brokenShare());
    }

    private static void undo() {
        Check.begin("promise 37");
        QuakeRehearsal x = new QuakeRehearsal();
        Check.fails("undo()", NOT_NOW, () -> x.undo());
        String[] states = new String[12];
        for (int i = 0; i < 12; i++) {
            states[i] = Check.stateOf(x);
            x.set(1 + (i + 1) % 9);
        }
        Check.same("changes", 8, x.account(12));
        for (int i = 11; i >= 4; i--) {
            Check.same("undo()", i - 4, x.undo());
            Check.same("state", states[i], Check.stateOf(x));
        }
        Check.fails("undo() of the ninth", NOT_NOW, () -> x.undo());
        Check.same("state", states[4], Check.stateOf(x));
        x.set(2);
        x.set(3);
        x.undo();
        x.set(4);
        Check.same("changes", 2, x.account(12));
        x.undo();
        Check.same("the strength", 2, x.account(5));
        x.undo();
        Check.same("the strength", 5, x.account(5));
        Check.same("changes", 0, x.account(12));
    }

    private static void undoTakesBackEachChange() {
        Check.begin("promise 37, each change");
        Twins.Act[] changes = {x -> x.cup(1, 1), x -> x.lamp(1, 1), x -> x.cat(1, 1), x -> x.take(0),
            x -> x.cue(1, 4), x -> x.set(5), x -> x.shock(), x -> x.add(9), x -> x.perform(), x -> x.quiet(),
            x -> Check.run(x, "take 0;set 5;add 1;shock;perform;cat 4 4")};
        for (int i = 0; i < changes.length; i++) {
            QuakeRehearsal x = shakenTwice();
            String before = Check.stateOf(x);
            changes[i].on(x);
            Check.same("change " + i + " counts", 7, x.account(12));
            Check.same("change " + i + " changes something", false, before.equals(Check.stateOf(x)));
            Check.same("undo()", 6, x.undo());
            Check.same("state", before, Check.stateOf(x));
        }
        QuakeRehearsal x = shakenTwice();
        x.append('a');
        x.line(0);
        x.save();
        Check.same("no changes", 6, x.account(12));
    }

    private static QuakeRehearsal shakenTwice() {
        QuakeRehearsal x = new QuakeRehearsal();
        x.cup(0, 2);
        x.lamp(0, 7);
        x.cat(0, 3);
        x.add(4);
        x.shock();
        x.shock();
        return x;
    }

    private static void save() {
        Check.begin("promise 38");
        QuakeRehearsal x = new QuakeRehearsal();
        Check.same("save() of an empty hall", 0, x.save());
        x.cup(0, 1);
        x.cat(0, 1);
        String second = Check.stateOf(x);
        Check.same("save() in its place", 2, x.save());
        Check.same("undo() after save()", 1, x.undo());
        Check.same("restore()", 2, x.restore());
        Check.same("state", second, Check.stateOf(x));
    }

    private static void restore() {
        Check.begin("promise 39");
        QuakeRehearsal x = new QuakeRehearsal();
        Check.fails("restore()", NOT_NOW, () -> x.restore());
        x.cup(0, 2);
        x.lamp(2, 5);
        x.cat(3, 1);
        x.cue(1, 2);
        x.set(5);
        x.add(5);
        x.shock();
        String saved = Check.stateOf(x);
        Check.same("save()", 3, x.save());
        x.take(1);
        x.perform();
        x.set(9);
        x.add(1);
        Check.refuses("set(9)", x, 3, 9, () -> x.set(9));
        Check.type(x, "ad");
        x.line(0);
        Check.same("restore()", 3, x.restore());
        Check.same("state", saved, Check.stateOf(x));
        Check.same("changes", 0, x.account(12));
        Check.fails("undo()", NOT_NOW, () -> x.undo());
        Check.same("the reason stays", 3, x.refusal(false));
        Check.same("the input stays", 2, x.account(11));
        Check.same("the line stays", 'c', x.character(0));
        x.quiet();
        x.shock();
        Check.same("the snapshot stays", 3, x.restore());
        Check.same("state", saved, Check.stateOf(x));
        x.shock();
        Check.same("undo()", 0, x.undo());
        Check.same("state", saved, Check.stateOf(x));
    }
}
