import java.util.Random;
import java.util.function.DoubleSupplier;

/** Long runs of calls, the same ones each time, with each answer compared with that of the model. */
public final class ModelTest {
    private static final int RUNS = 3000;
    private static final int CALLS = 512;
    private static final String[] WORDS = {"cup", "lamp", "cat", "take", "cue", "set", "shock", "add", "perform", "quiet"};

    private final Random random;
    private final QuakeRehearsal x = new QuakeRehearsal();
    private final Model model = new Model();
    private final int mood;
    private int calls = 0;

    private ModelTest(int seed) {
        random = new Random(seed);
        mood = seed % 4;
    }

    public static void main(String[] args) {
        for (int seed = 0; seed < RUNS && Check.wrongSoFar() == 0; seed++) {
            Check.begin("run " + seed);
            ModelTest run = new ModelTest(seed);
            while (run.calls < CALLS && Check.wrongSoFar() == 0) {
                run.call();
            }
        }
        Check.end();
    }

    private static String answerOf(DoubleSupplier call) {
        try {
            return String.valueOf(call.getAsDouble());
        } catch (RuntimeException e) {
            return e.getClass().getSimpleName();
        }
    }

    /** Makes the call, unless the object was used for as many calls as it may be. */
    private void compare(String call, DoubleSupplier due, DoubleSupplier got) {
        if (calls < CALLS) {
            calls++;
            Check.same(call, answerOf(due), answerOf(got));
        }
    }

    /** Mostly within the bounds, now and then beside them. */
    private int about(int least, int most) {
        int kind = random.nextInt(40);
        if (kind == 0) {
            return least - 1;
        }
        if (kind == 1) {
            return most + 1;
        }
        if (kind == 2) {
            return random.nextInt();
        }
        return least + random.nextInt(most - least + 1);
    }

    private int someProp() {
        return about(0, Math.max(0, model.account(0) - 1));
    }

    private void call() {
        int kind = random.nextInt(100);
        if (kind < 45) {
            changeSomething();
        } else if (kind < 70) {
            askWhatShocksDo();
        } else if (kind < 84) {
            askOrdersAndLines();
        } else if (kind < 90) {
            goBack();
        } else {
            runText();
        }
    }

    private void changeSomething() {
        int kind = random.nextInt(100);
        if (kind < 10) {
            placeSomething("cup");
        } else if (kind < 20) {
            placeSomething("lamp");
        } else if (kind < 28) {
            placeSomething("cat");
        } else if (kind < 34) {
            int prop = someProp();
            compare("take(" + prop + ")", () -> model.change("take", prop), () -> x.take(prop));
        } else if (kind < 44) {
            int prop = someProp();
            int strength = about(0, 9);
            compare("cue(" + prop + ", " + strength + ")", () -> model.change("cue", prop, strength),
                () -> x.cue(prop, strength));
        } else {
            shakeSomething(kind);
        }
    }

    private void shakeSomething(int kind) {
        int strength = about(1, 9);
        if (kind < 54) {
            compare("set(" + strength + ")", () -> model.change("set", strength), () -> x.set(strength));
        } else if (kind < 70) {
            compare("shock()", () -> model.change("shock"), () -> x.shock());
        } else if (kind < 86) {
            compare("add(" + strength + ")", () -> model.change("add", strength), () -> x.add(strength));
        } else if (kind < 94) {
            compare("perform()", () -> model.change("perform"), () -> x.perform());
        } else {
            compare("quiet()", () -> model.change("quiet"), () -> x.quiet());
        }
    }

    /** In some moods props stand close together, so that floors become full, or like what is rare. */
    private void placeSomething(String word) {
        int floor = mood == 1 ? about(0, 1) : about(0, 4);
        int number = mood == 2 ? about(1, 4) : about(0, 9);
        compare(word + "(" + floor + ", " + number + ")", () -> model.change(word, floor, number),
            () -> word.equals("cup") ? x.cup(floor, number) : word.equals("lamp") ? x.lamp(floor, number)
                : x.cat(floor, number));
    }

    private void askWhatShocksDo() {
        int strength = about(1, 9);
        int floor = about(0, 4);
        int prop = someProp();
        int what = about(0, 6);
        boolean isAgain = random.nextBoolean();
        compare("on(" + strength + ", " + floor + ")", () -> model.on(strength, floor), () -> x.on(strength, floor, isAgain));
        compare("wouldMark(" + strength + ")", () -> model.wouldMark(strength), () -> x.wouldMark(strength));
        compare("wouldBreak(" + strength + ")", () -> model.wouldBreak(strength), () -> x.wouldBreak(strength, isAgain));
        compare("programmeBreaks()", () -> model.programmeBreaks(), () -> x.programmeBreaks());
        compare("best()", () -> model.best(), () -> x.best());
        compare("leastBreaking()", () -> model.leastBreaking(), () -> x.leastBreaking());
        compare("shocksFor(" + prop + ")", () -> model.shocksFor(prop), () -> x.shocksFor(prop));
        compare("isBroken(" + prop + ")", () -> model.propOf(prop, 4), () -> x.isBroken(prop) ? 1 : 0);
        compare("propOf(" + prop + ", " + what + ")", () -> model.propOf(prop, what), () -> x.propOf(prop, what));
        compare("isWell()", () -> 1, () -> x.isWell() ? 1 : 0);
        compareStateNowAndThen();
    }

    private void compareStateNowAndThen() {
        if (random.nextInt(12) != 0) {
            return;
        }
        for (int i = 0; i < model.account(0) * 7; i++) {
            int prop = i / 7;
            int what = i % 7;
            compare("propOf(" + prop + ", " + what + ")", () -> model.propOf(prop, what), () -> x.propOf(prop, what));
        }
        for (int i = 0; i <= model.account(10); i++) {
            int place = i;
            compare("programme(" + place + ")", () -> model.programme(place), () -> x.programme(place));
        }
        for (int i = 0; i <= 12; i++) {
            int what = i;
            compare("account(" + what + ")", () -> model.account(what), () -> x.account(what));
        }
    }

    private void askOrdersAndLines() {
        int place = about(0, 3);
        int kind = about(1, 3);
        int floor = about(0, 4);
        int prop = someProp();
        int index = about(0, 7);
        int what = about(0, 12);
        compare("cupAt(" + place + ")", () -> model.at(1, place), () -> x.cupAt(place));
        compare("lampAt(" + place + ")", () -> model.at(2, place), () -> x.lampAt(place));
        compare("catAt(" + place + ")", () -> model.at(3, place), () -> x.catAt(place));
        compare("onFloor(" + kind + ", " + floor + ")", () -> model.onFloor(kind, floor), () -> x.onFloor(kind, floor));
        compare("programme(" + place + ")", () -> model.programme(place), () -> x.programme(place));
        if (random.nextInt(3) == 0) {
            compare("programmeLine()", () -> model.programmeLine(), () -> x.programmeLine());
        } else {
            compare("line(" + prop + ")", () -> model.line(prop), () -> x.line(prop));
        }
        for (int i = 0; i <= 10; i++) {
            int next = i == 10 ? index : i;
            compare("character(" + next + ")", () -> model.character(next), () -> x.character(next));
        }
        compare("account(" + what + ")", () -> model.account(what), () -> x.account(what));
        compare("meanGrade()", () -> model.meanGrade(), () -> x.meanGrade());
        compare("brokenShare()", () -> model.brokenShare(), () -> x.brokenShare());
        compareRefusal();
    }

    private void compareRefusal() {
        compare("errorPosition()", () -> model.errorPosition(), () -> x.errorPosition());
        compare("refusal(false)", () -> model.refusal(false), () -> x.refusal(false));
        compare("refusal(true)", () -> model.refusal(true), () -> x.refusal(true));
    }

    private void goBack() {
        int kind = random.nextInt(10);
        if (kind < 7) {
            compare("undo()", () -> model.undo(), () -> x.undo());
        } else if (kind < 9) {
            compare("save()", () -> model.save(), () -> x.save());
        } else if (random.nextInt(3) == 0) {
            compare("restore()", () -> model.restore(), () -> x.restore());
        }
        compare("account(12)", () -> model.account(12), () -> x.account(12));
    }

    private void runText() {
        String text = someText();
        for (int i = 0; i < text.length(); i++) {
            char c = text.charAt(i);
            compare("append(" + c + ")", () -> model.append(c), () -> x.append(c));
        }
        if (random.nextInt(12) != 0) {
            compare("run of " + text, () -> model.run(), () -> x.run());
        }
        compareRefusal();
        compare("account(11)", () -> model.account(11), () -> x.account(11));
        compare("account(12)", () -> model.account(12), () -> x.account(12));
        compareStateNowAndThen();
    }

    private String someText() {
        StringBuilder text = new StringBuilder();
        int orders = 1 + random.nextInt(mood == 3 ? 9 : 4);
        for (int i = 0; i < orders; i++) {
            text.append(i == 0 ? "" : ";").append(someOrder(WORDS[random.nextInt(WORDS.length)]));
        }
        if (random.nextInt(4) == 0) {
            spoil(text);
        }
        return text.toString();
    }

    private String someOrder(String word) {
        switch (word) {
            case "shock":
            case "perform":
            case "quiet":
                return word;
            case "set":
            case "add":
                return word + " " + (random.nextInt(30) == 0 ? 0 : 1 + random.nextInt(9));
            case "take":
                return word + " " + someDigits();
            case "cue":
                return word + " " + someDigits() + " " + random.nextInt(10);
            default:
                return word + " " + random.nextInt(random.nextInt(20) == 0 ? 10 : 5) + " " + (1 + random.nextInt(9));
        }
    }

    private String someDigits() {
        int props = model.account(0);
        int prop = random.nextInt(20) == 0 || props == 0 ? random.nextInt(100) : random.nextInt(props);
        return (prop < 10 && random.nextInt(3) == 0 ? "0" : "") + prop;
    }

    private void spoil(StringBuilder text) {
        String signs = " ;0123459acdefhiklmopqrstu\u0000\u0130x";
        int place = random.nextInt(text.length());
        char sign = signs.charAt(random.nextInt(signs.length()));
        int kind = random.nextInt(4);
        if (kind == 0) {
            text.setCharAt(place, sign);
        } else if (kind == 1) {
            text.insert(place, sign);
        } else if (kind == 2) {
            text.deleteCharAt(place);
        } else {
            text.setLength(place);
        }
    }
}
