/** "Lines" and "Texts" in the document: promises 26 to 31, on both sides of each bound. */
public final class TextBoundsTest {
    private static final Class<IllegalArgumentException> WRONG = IllegalArgumentException.class;
    private static final Class<IndexOutOfBoundsException> NO_PLACE = IndexOutOfBoundsException.class;
    private static final String[] WORDS = {"cup", "lamp", "cat", "take", "cue", "set", "shock", "add", "perform", "quiet"};
    private static final String[] ENDS = {" 4 9", " 4 9", " 4 9", " 99", " 99 9", " 9", "", " 9", "", ""};

    private TextBoundsTest() {
    }

    public static void main(String[] args) {
        linesOfTheDocument();
        linesOfCups();
        linesOfLamps();
        linesOfCats();
        linesOfTheProgramme();
        lineNeedsAProp();
        aLineIsInPlaceOfTheOneBefore();
        characterNeedsAnIndex();
        theInputHasSixtyCharacters();
        theInputIsEmptyBehindRun();
        anEmptyTextEndsTooEarly();
        aTextThatEndsTooEarly();
        wordsAreLookedAtLetterByLetter();
        signsBesideTheRightOnes();
        oneDigitAndTwo();
        aTextHasNoMoreBehindAnOrder();
        aTextOfSixtyCharacters();
        errorsOfLaterOrders();
        theErrorPositionIsOfTheLatestRun();
        ordersAreCountedFromOneToTen();
        propsOfOneAndTwoDigits();
        eachOrderGoesOnFromTheOneBefore();
        anErrorIsToldAheadOfARefusal();
        theFirstOrderThatCannotBeDecides();
        refusalsInTexts();
        wrongOrdersInTexts();
        Check.end();
    }

    private static void linesOfTheDocument() {
        Check.begin("as in \"c2:5''\", \"l0:7~12#3\" and \"k4:6\"");
        QuakeRehearsal x = new QuakeRehearsal();
        x.cup(2, 7);
        x.lamp(0, 7);
        x.cat(4, 6);
        Check.shock(x, 1);
        Check.shock(x, 3);
        Check.shock(x, 7);
        Check.same("the lamp, not cued", "l0:7~12", Check.lineOf(x, 1));
        x.cue(1, 3);
        Check.same("the lamp", "l0:7~12#3", Check.lineOf(x, 1));
        Check.same("the cat", "k4:6", Check.lineOf(x, 2));
        Check.shock(x, 9);
        x.shock();
        Check.same("the cup", "c2:5''", Check.lineOf(x, 0));
    }

    private static void linesOfCups() {
        Check.begin("its grade, then \"'\" for each crack, and \"!\" if it is broken");
        String[] due = {"c4:3", "c4:2'", "c4:1''", "c4:1'''!", "c4:1'''!"};
        QuakeRehearsal x = new QuakeRehearsal();
        x.cup(4, 3);
        x.set(9);
        for (int shocks = 0; shocks <= 4; shocks++) {
            Check.same("behind " + shocks + " shocks", due[shocks], Check.lineOf(x, 0));
            Check.same("its length", due[shocks].length(), x.line(0));
            x.shock();
        }
        for (int i = 1; i <= 9; i++) {
            x.cup(i % 5, i);
            Check.same("a new one", "c" + i % 5 + ":" + i, Check.lineOf(x, i));
        }
    }

    private static void linesOfLamps() {
        Check.begin("its length, then \"~\" and its swing, and \"#\" and the strength for which it is cued, if it is");
        QuakeRehearsal x = new QuakeRehearsal();
        x.lamp(0, 1);
        for (int swing = 0; swing <= 20; swing++) {
            Check.same("the swing " + swing, "l0:1~" + swing, Check.lineOf(x, 0));
            x.shock();
        }
        Check.same("the swing 21", "l0:1~21!", Check.lineOf(x, 0));
        QuakeRehearsal y = new QuakeRehearsal();
        y.lamp(4, 9);
        for (int cue = 1; cue <= 9; cue++) {
            y.cue(0, cue);
            Check.same("cued for " + cue, "l4:9~0#" + cue, Check.lineOf(y, 0));
        }
        y.cue(0, 0);
        Check.same("not cued", "l4:9~0", Check.lineOf(y, 0));
        QuakeRehearsal z = new QuakeRehearsal();
        z.lamp(0, 8);
        for (int i = 0; i < 20; i++) {
            z.shock();
        }
        z.cue(0, 1);
        Check.shock(z, 9);
        Check.same("the longest line", "l0:8~37#1!", Check.lineOf(z, 0));
        Check.same("its length", 10, z.line(0));
    }

    private static void linesOfCats() {
        Check.begin("what it likes, and nothing behind it");
        QuakeRehearsal x = new QuakeRehearsal();
        for (int likes = 0; likes <= 9; likes++) {
            x.cat(likes / 2, likes);
            Check.same("a cat", "k" + likes / 2 + ":" + likes, Check.lineOf(x, likes));
        }
        x.shock();
        Check.same("one with marks", "k0:1", Check.lineOf(x, 1));
    }

    private static void linesOfTheProgramme() {
        Check.begin("its strengths side by side, the first one first");
        QuakeRehearsal x = new QuakeRehearsal();
        String due = "";
        for (int count = 0; count <= 8; count++) {
            Check.same("programmeLine()", count, x.programmeLine());
            Check.same("the line", due, Check.programmeOf(x));
            if (count < 8) {
                x.add(9 - count);
                due += 9 - count;
            }
        }
        x.perform();
        Check.same("programmeLine()", 0, x.programmeLine());
        Check.fails("character(0)", NO_PLACE, () -> x.character(0));
    }

    private static void lineNeedsAProp() {
        Check.begin("promise 26: if there is no such prop");
        for (int prop : new int[] {-1, 4, 12, 256, Integer.MIN_VALUE, Integer.MAX_VALUE}) {
            Twins.stay("line(" + prop + ")", Pasts::busyWithInput, NO_PLACE, x -> x.line(prop));
        }
        Twins.stay("line(0) at first", Pasts::none, NO_PLACE, x -> x.line(0));
        Twins.stay("line(12) of 12", Pasts::fullHall, NO_PLACE, x -> x.line(12));
        QuakeRehearsal x = new QuakeRehearsal();
        Pasts.fullHall(x);
        Check.same("line(11) of 12", "k2:9", Check.lineOf(x, 11));
        Check.same("line(0) of 12", "c0:1", Check.lineOf(x, 0));
    }

    private static void aLineIsInPlaceOfTheOneBefore() {
        Check.begin("in place of the line before");
        QuakeRehearsal x = new QuakeRehearsal();
        x.lamp(0, 8);
        x.cat(1, 2);
        x.add(5);
        Check.same("a long one", "l0:8~0", Check.lineOf(x, 0));
        Check.same("a shorter one", "k1:2", Check.lineOf(x, 1));
        Check.same("the shortest", "5", Check.programmeOf(x));
        Check.same("a long one", "l0:8~0", Check.lineOf(x, 0));
        x.shock();
        x.take(0);
        Check.same("it stays as it was written", "~0", x.character(4) + "" + x.character(5));
        Check.fails("line(1)", NO_PLACE, () -> x.line(1));
        Check.same("it stays behind an exception", 'l', x.character(0));
    }

    private static void characterNeedsAnIndex() {
        Check.begin("promise 28: if there is no such index");
        for (int index : new int[] {-1, 0, 1, Integer.MIN_VALUE, Integer.MAX_VALUE}) {
            Twins.stay("character(" + index + ") at first", Pasts::fullHall, NO_PLACE, x -> x.character(index));
        }
        for (int index : new int[] {-1, 8, 9, 15, 16, 256, Integer.MIN_VALUE, Integer.MAX_VALUE}) {
            Twins.stay("character(" + index + ") of 8", Pasts::busyWithInput, NO_PLACE, x -> x.character(index));
        }
        QuakeRehearsal x = new QuakeRehearsal();
        Pasts.busy(x);
        Check.same("the first and the last of 8", "l4", x.character(0) + "" + x.character(7));
    }

    private static void theInputHasSixtyCharacters() {
        Check.begin("the input has at most 60 characters");
        QuakeRehearsal x = new QuakeRehearsal();
        for (int i = 1; i <= 60; i++) {
            Check.same("append", i, x.append((char) (i * 1111)));
        }
        for (char c : new char[] {'a', ';', 0, 65535}) {
            Check.fails("the 61st", IllegalStateException.class, () -> x.append(c));
            Check.same("the input", 60, x.account(11));
        }
        Twins.stay("the 61st", y -> Check.type(y, "shock;".repeat(10)), IllegalStateException.class, y -> y.append('s'));
        QuakeRehearsal y = new QuakeRehearsal();
        Check.type(y, "shock;".repeat(9) + "shock");
        Check.same("the 60th", 60, y.append(';'));
        Check.fails("the 61st", IllegalStateException.class, () -> y.append('s'));
        Check.fails("run()", WRONG, () -> y.run());
        Check.same("the error position", 60, y.errorPosition());
        Check.same("append behind run()", 1, y.append('s'));
    }

    private static void theInputIsEmptyBehindRun() {
        Check.begin("which is empty afterwards, also if an exception is thrown");
        QuakeRehearsal x = new QuakeRehearsal();
        Check.same("run()", 1, Check.run(x, "set 3"));
        Check.same("the input", 0, x.account(11));
        Check.fails("run()", WRONG, () -> Check.run(x, "set x"));
        Check.same("behind an error", 0, x.account(11));
        Check.fails("run()", WRONG, () -> Check.run(x, "set 0"));
        Check.same("behind a wrong order", 0, x.account(11));
        Check.fails("run()", UnsupportedOperationException.class, () -> Check.run(x, "set 3"));
        Check.same("behind a refused order", 0, x.account(11));
        Check.fails("run() of nothing", WRONG, () -> x.run());
        Check.same("the error position", 0, x.errorPosition());
        Check.same("run()", 1, Check.run(x, "set 4"));
    }

    private static void anEmptyTextEndsTooEarly() {
        Check.begin("or the length of the text if it ends too early");
        Twins.runStays("", Pasts::none, 0);
        Twins.runStays("", Pasts::busy, 0);
        Twins.runStays(";", Pasts::busy, 0);
        Twins.runStays("quiet;", Pasts::busy, 6);
        Twins.runStays("quiet;;quiet", Pasts::busy, 6);
    }

    private static void aTextThatEndsTooEarly() {
        Check.begin("each text that is cut off");
        for (int i = 0; i < WORDS.length; i++) {
            String order = WORDS[i] + ENDS[i];
            for (int length = 0; length < order.length(); length++) {
                String cut = order.substring(0, length);
                boolean isWhole = cut.equals("take 9");
                Check.same("the error position of " + cut, isWhole ? -1 : length, errorOf(cut));
                Check.same("the error position behind an order", isWhole ? -1 : 6 + length, errorOf("shock;" + cut));
            }
            Check.same("the error position of " + order, -1, errorOf(order));
        }
    }

    private static int errorOf(String text) {
        QuakeRehearsal x = new QuakeRehearsal();
        Check.type(x, text);
        try {
            x.run();
        } catch (IllegalArgumentException | UnsupportedOperationException e) {
            Check.same("changes behind " + text, 0, x.account(12));
        }
        return x.errorPosition();
    }

    private static void wordsAreLookedAtLetterByLetter() {
        Check.begin("words are looked at letter by letter");
        for (int i = 0; i < WORDS.length; i++) {
            String order = WORDS[i] + ENDS[i];
            for (int place = 0; place < order.length(); place++) {
                for (char sign : new char[] {'x', 'C', '-', 0, (char) (order.charAt(place) + 256)}) {
                    String text = order.substring(0, place) + sign + order.substring(place + 1);
                    Check.same("the error position of " + text, place, errorOf(text));
                    Check.same("the error position of the second", 6 + place, errorOf("quiet;" + text));
                }
                String upper = order.substring(0, place) + order.substring(place).toUpperCase();
                Check.same("the error position of " + upper, place < WORDS[i].length() ? place : -1, errorOf(upper));
            }
        }
        String[] mixed = {"cat", "cap", "cae", "cut", "lat", "tap", "sot", "sep", "adt", "pek", "qut", "ct", "st", "ts"};
        int[] due = {3, 2, 2, 2, 2, 2, 1, 2, 2, 2, 2, 1, 1, 1};
        for (int i = 0; i < mixed.length; i++) {
            Check.same("the error position of " + mixed[i], due[i], errorOf(mixed[i]));
        }
    }

    private static void signsBesideTheRightOnes() {
        Check.begin("digits, blanks and semicolons, and the signs beside them");
        for (char digit = '0'; digit <= '9'; digit++) {
            Check.same("set " + digit, -1, errorOf("set " + digit));
            Check.same("cat 0 " + digit, -1, errorOf("cat 0 " + digit));
            Check.same("cup " + digit + " 1", -1, errorOf("cup " + digit + " 1"));
            Check.same("take " + digit, -1, errorOf("take " + digit));
            Check.same("take 1" + digit, -1, errorOf("take 1" + digit));
            Check.same("cue " + digit + digit + " " + digit, -1, errorOf("cue " + digit + digit + " " + digit));
        }
        for (char sign : new char[] {'/', ':', ' ', ';', 'a', 'O', '\u0661', '0' + 256}) {
            Check.same("set " + sign, 4, errorOf("set " + sign));
            Check.same("take " + sign, 5, errorOf("take " + sign));
            Check.same("cup 1 " + sign, 6, errorOf("cup 1 " + sign));
            Check.same("cue 1 " + sign, 6, errorOf("cue 1 " + sign));
        }
        for (char sign : new char[] {'!', 31, '\t', '_', ' ' + 256, ';'}) {
            Check.same("set" + sign + "1", 3, errorOf("set" + sign + "1"));
            Check.same("cup 1" + sign + "1", 5, errorOf("cup 1" + sign + "1"));
            Check.same("cue 11" + sign + "1", 6, errorOf("cue 11" + sign + "1"));
        }
        for (char sign : new char[] {':', '<', ',', ' ', '\n', ';' + 256}) {
            Check.same("quiet" + sign + "quiet", 5, errorOf("quiet" + sign + "quiet"));
            Check.same("set 1" + sign + "quiet", 5, errorOf("set 1" + sign + "quiet"));
        }
    }

    private static void oneDigitAndTwo() {
        Check.begin("a prop, of one or two digits");
        Check.same("a floor of two", 5, errorOf("cup 11 1"));
        Check.same("a grade of two", 7, errorOf("cup 1 11"));
        Check.same("a length of two", 8, errorOf("lamp 1 11"));
        Check.same("what a cat likes, of two", 7, errorOf("cat 1 01"));
        Check.same("a strength of two", 5, errorOf("set 01"));
        Check.same("a strength of two", 5, errorOf("add 01"));
        Check.same("a prop of one", -1, errorOf("take 1"));
        Check.same("a prop of two", -1, errorOf("take 11"));
        Check.same("a prop of three", 7, errorOf("take 111"));
        Check.same("a prop of one", -1, errorOf("cue 1 1"));
        Check.same("a prop of two", -1, errorOf("cue 11 1"));
        Check.same("a prop of three", 6, errorOf("cue 111 1"));
        Check.same("a cue of two", 7, errorOf("cue 1 11"));
        Check.same("a cue of two", 8, errorOf("cue 11 11"));
    }

    private static void aTextHasNoMoreBehindAnOrder() {
        Check.begin("with a semicolon between two of them");
        for (int i = 0; i < WORDS.length; i++) {
            String order = WORDS[i] + ENDS[i];
            for (char sign : new char[] {' ', '1', 'c', 's', 0}) {
                Check.same("the error position of " + order + sign, order.length(), errorOf(order + sign));
            }
            Check.same("a semicolon behind " + order, order.length() + 1, errorOf(order + ";"));
            Check.same("two of them", order.length() + 1, errorOf(order + ";;"));
            Check.same("a blank behind it", order.length() + 1, errorOf(order + "; " + order));
            Check.same("twice " + order, -1, errorOf(order + ";" + order));
            Check.same("one ahead of it", 0, errorOf(";" + order));
            Check.same("a blank ahead of it", 0, errorOf(" " + order));
        }
    }

    private static void aTextOfSixtyCharacters() {
        Check.begin("texts of 59 and 60 characters");
        QuakeRehearsal x = new QuakeRehearsal();
        x.cup(0, 1);
        Check.same("59 characters", 10, Check.run(x, "shock;".repeat(9) + "shock"));
        Check.same("60 characters", 10, Check.run(x, "quiet;".repeat(9) + "take 0"));
        Check.same("state", " 0 0 0 0 0 1 10 0 0 1 0", Check.stateOf(x));
        Twins.runStays("shock;".repeat(10), Pasts::none, 60);
        Twins.runStays("shock;".repeat(9) + "shocks", Pasts::none, 59);
        Twins.runStays("shock;".repeat(9) + "quiets", Pasts::busy, 59);
        Twins.runStays("shock;".repeat(8) + "shock;cup 1 ", Pasts::busy, 60);
        Twins.runStays("a".repeat(60), Pasts::busy, 1);
        Twins.runStays("quiet;".repeat(9) + "take 4", Pasts::busy, -1);
    }

    private static void errorsOfLaterOrders() {
        Check.begin("the offset of the first character, from the beginning of the text");
        for (int orders = 0; orders <= 9; orders++) {
            String ahead = "quiet;".repeat(orders);
            Check.same("behind " + orders + " orders", 6 * orders, errorOf(ahead + "x"));
            Check.same("behind " + orders + " orders", 6 * orders, errorOf(ahead));
            Check.same("behind " + orders + " orders", 6 * orders + 5, errorOf(ahead + "quiet "));
            Check.same("behind " + orders + " orders", 6 * orders + 3, errorOf(ahead + "set"));
        }
        Check.same("the first of several", 3, errorOf("set;set;x"));
    }

    private static void theErrorPositionIsOfTheLatestRun() {
        Check.begin("promise 31: -1 if that text had no error or run has not been called");
        QuakeRehearsal x = new QuakeRehearsal();
        Check.same("at first", -1, x.errorPosition());
        Check.type(x, "xx");
        Check.same("ahead of run()", -1, x.errorPosition());
        Check.fails("run()", WRONG, () -> x.run());
        Check.same("behind an error", 0, x.errorPosition());
        x.quiet();
        Check.type(x, "set 1");
        Check.same("until the next run()", 0, x.errorPosition());
        Check.fails("run()", UnsupportedOperationException.class, () -> x.run());
        Check.same("behind a refusal", -1, x.errorPosition());
        Check.fails("run()", WRONG, () -> Check.run(x, "quiet;take"));
        Check.same("behind an error", 10, x.errorPosition());
        Check.fails("run()", WRONG, () -> Check.run(x, "quiet;take 0"));
        Check.same("behind a wrong order", -1, x.errorPosition());
        Check.fails("run()", WRONG, () -> Check.run(x, "s"));
        Check.same("behind an error", 1, x.errorPosition());
        Check.same("run()", 1, Check.run(x, "shock"));
        Check.same("behind a good one", -1, x.errorPosition());
    }

    private static void ordersAreCountedFromOneToTen() {
        Check.begin("promise 30: the number of orders");
        for (int orders = 1; orders <= 10; orders++) {
            QuakeRehearsal x = new QuakeRehearsal();
            Check.same("run()", orders, Check.run(x, "shock;".repeat(orders - 1) + "shock"));
            Check.same("shocks", orders, x.account(6));
            Check.same("changes", 1, x.account(12));
            Check.same("undo()", 0, x.undo());
            Check.same("shocks", 0, x.account(6));
        }
    }

    private static void propsOfOneAndTwoDigits() {
        Check.begin("take and cue of the props 0 to 11");
        for (int prop = 0; prop <= 11; prop++) {
            for (String digits : new String[] {"" + prop, prop < 10 ? "0" + prop : "" + prop}) {
                QuakeRehearsal x = new QuakeRehearsal();
                Pasts.fullHall(x);
                String gone = Check.lineOf(x, prop);
                Check.same("take " + digits, 1, Check.run(x, "take " + digits));
                Check.same("props", 11, x.account(0));
                for (int i = 0; i < 11; i++) {
                    Check.same("it is not there", false, gone.equals(Check.lineOf(x, i)));
                }
                QuakeRehearsal y = new QuakeRehearsal();
                for (int i = 0; i < 12; i++) {
                    y.lamp(i / 5, 5);
                }
                Check.same("cue " + digits, 1, Check.run(y, "cue " + digits + " 9"));
                Check.same("it is cued", 9, y.propOf(prop, 5));
                Check.same("the next is not", 0, y.propOf((prop + 1) % 12, 5));
                Check.same("0 takes the cue away", 1, Check.run(y, "cue " + digits + " 0"));
                Check.same("it is not cued", 0, y.propOf(prop, 5));
            }
        }
        for (String digits : new String[] {"12", "13", "20", "99"}) {
            Twins.runStays("take " + digits, Pasts::fullHall, -1);
            Twins.runStays("cue " + digits + " 1", Pasts::fullHall, -1);
        }
    }

    private static void eachOrderGoesOnFromTheOneBefore() {
        Check.begin("one after the other");
        QuakeRehearsal x = new QuakeRehearsal();
        Check.same("run()", 4, Check.run(x, "lamp 0 1;cue 0 9;set 9;shock"));
        Check.same("the lamp", "l0:1~5#9", Check.lineOf(x, 0));
        Check.same("run()", 3, Check.run(x, "cat 4 0;take 0;cup 3 4"));
        Check.same("the cat, the cup", "k4:0 c3:4", Check.lineOf(x, 0) + " " + Check.lineOf(x, 1));
        Check.same("run()", 3, Check.run(x, "set 1;set 9;set 1"));
        Check.same("the strength", 1, x.account(5));
        x.add(1);
        Check.same("run()", 9, Check.run(x, "add 2;add 2;add 2;add 2;add 2;add 2;add 2;perform;add 3"));
        Check.same("the programme", "3", Check.programmeOf(x));
        Check.same("five on a floor", 5, Check.run(x, "cup 0 1;cup 0 1;cup 0 1;cup 0 1;cup 0 1"));
        Check.same("12 in all", 5, Check.run(x, "cat 1 1;cat 1 1;cat 1 1;cat 1 1;cat 1 1"));
        Check.same("and with one gone", 2, Check.run(x, "take 11;lamp 1 1"));
        Check.same("props", 12, x.account(0));
        Check.same("perform and what it leaves", 2, Check.run(x, "perform;add 4"));
        Check.same("the programme", "4", Check.programmeOf(x));
    }

    private static void anErrorIsToldAheadOfARefusal() {
        Check.begin("if the text has an error, nothing of it is carried out, and nothing is refused");
        Twins.runStays("set 1;x", Pasts::none, 6);
        Twins.runStays("perform;", Pasts::none, 8);
        Twins.runStays("set 5;set 5;set", Pasts::busy, 15);
        Twins.runStays("take 9;cup 9 9;set 1 ", Pasts::busy, 20);
        QuakeRehearsal x = new QuakeRehearsal();
        Check.fails("run()", WRONG, () -> Check.run(x, "set 1;x"));
        Check.fails("refusal(false)", java.util.NoSuchElementException.class, () -> x.refusal(false));
    }

    private static void theFirstOrderThatCannotBeDecides() {
        Check.begin("the first order that cannot be decides what is thrown");
        Twins.runRefuses("set 1;take 9", Pasts::none, 3, 1);
        Twins.runStays("take 9;set 1", Pasts::none, -1);
        Twins.runRefuses("set 5;perform;set 0", Pasts::none, 5, 0);
        Twins.runStays("set 5;set 0;perform", Pasts::none, -1);
        Twins.runRefuses("perform;set 1", Pasts::none, 5, 0);
        Twins.runRefuses("set 1;perform", Pasts::none, 3, 1);
        Twins.runRefuses("quiet;take 0;cue 0 4;take 3", Pasts::busy, 3, 4);
        Twins.runStays("quiet;take 0;take 3;cue 0 4", Pasts::busy, -1);
    }

    private static void refusalsInTexts() {
        Check.begin("each reason in a text, as it is at that order");
        Twins.runRefuses("cup 0 9", Pasts::fullHall, 1, 12);
        Twins.runRefuses("lamp 4 1;lamp 4 1", x -> {
            Pasts.fullHall(x);
            x.take(6);
        }, 1, 12);
        Twins.runRefuses("cat 2 1;take 0;cat 2 1", Pasts::fullHall, 1, 12);
        Twins.runRefuses("lamp 3 1;lamp 3 1;lamp 3 1;lamp 3 1;lamp 3 1;lamp 3 1", Pasts::busy, 2, 3);
        Twins.runRefuses("cup 0 1;cup 0 1;cup 0 1;cup 0 1;cup 0 1", Pasts::busy, 2, 0);
        Twins.runRefuses("add 1", Pasts::fullProgramme, 1, 8);
        Twins.runRefuses("perform;add 1;perform;perform", Pasts::fullProgramme, 5, 14);
        Twins.runRefuses("add 1;add 1;add 1;add 1;add 1;add 1;add 1;add 1", Pasts::busy, 1, 8);
        Twins.runRefuses("set 5", Pasts::busy, 3, 5);
        Twins.runRefuses("set 6;set 6", Pasts::busy, 3, 6);
        Twins.runRefuses("cue 1 4", Pasts::busy, 3, 4);
        Twins.runRefuses("cue 1 0;cue 1 0", Pasts::busy, 3, 0);
        Twins.runRefuses("take 0;cue 2 0", Pasts::busy, 4, 3);
        Twins.runRefuses("cue 0 0", Pasts::busy, 4, 0);
        Twins.runRefuses("perform;perform", Pasts::busy, 5, 7);
        Twins.runRefuses("shock;shock;perform", Pasts::none, 5, 2);
        Twins.runRefuses("set 9;shock;shock;shock;cue 1 4", Pasts::busy, 6, 23);
        Twins.runRefuses("cue 0 4", Pasts::fallenLamp, 6, 34);
        Twins.runRefuses("cue 00 0", Pasts::fallenLamp, 6, 34);
    }

    private static void wrongOrdersInTexts() {
        Check.begin("another exception than UnsupportedOperationException; its position is -1");
        String[] orders = {"cup 5 1", "cup 9 9", "cup 0 0", "lamp 5 1", "lamp 0 0", "cat 5 0", "cat 9 9", "take 4",
            "take 04", "take 99", "cue 4 1", "cue 99 0", "set 0", "add 0"};
        for (String order : orders) {
            Twins.runStays(order, Pasts::busy, -1);
            Twins.runStays("quiet;take 0;cup 0 1;" + order, Pasts::busy, -1);
        }
        Twins.runStays("take 0;take 3", Pasts::busy, -1);
        Twins.runStays("cup 5 1", Pasts::fullHall, -1);
        Twins.runStays("add 0", Pasts::fullProgramme, -1);
        QuakeRehearsal x = new QuakeRehearsal();
        Pasts.busy(x);
        Check.same("right ones", 5, Check.run(x, "cup 4 1;cup 0 9;cat 4 0;take 3;cue 1 9"));
    }
}
