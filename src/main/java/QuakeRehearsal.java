import java.util.NoSuchElementException;

/** Rehearses earthquakes in a hall with cups, lamps and cats; README.md tells how it is used. */
public final class QuakeRehearsal {
    private static final int CUP = 1;
    private static final int LAMP = 2;
    private static final int CAT = 3;
    private static final int TAKE = 4;
    private static final int CUE = 5;
    private static final int SET = 6;
    private static final int SHOCK = 7;
    private static final int ADD = 8;
    private static final int PERFORM = 9;
    private static final int QUIET = 10;

    private static final int FLOORS = 5;
    private static final int MOST_ON_FLOOR = 5;
    private static final int MOST_PROPS = 12;
    private static final int MOST_PLANNED = 8;
    private static final int MOST_STRENGTH = 9;
    private static final int MOST_CRACKS = 3;
    private static final int MOST_SWING = 20;
    private static final int MOST_MARKS = 5;
    private static final int ENCORE_MARKS = 3;
    private static final int MOST_TRIES = 30;
    private static final int MOST_SIGNS = 60;
    /** More than the input can hold: the shortest order has five characters and a semicolon. */
    private static final int MOST_ORDERS = 12;
    private static final int MOST_UNDONE = 8;
    /** More than any line needs: the longest, of a lamp, has ten characters. */
    private static final int LINE_ROOM = 16;

    private static final int DONE = 0;
    private static final int NO_PROP = 1;
    private static final int WRONG = 2;
    private static final int REFUSED = 3;

    private static final int IS_FULL = 1;
    private static final int FLOOR_IS_FULL = 2;
    private static final int IS_SO_ALREADY = 3;
    private static final int IS_NO_LAMP = 4;
    private static final int IS_EMPTY = 5;
    private static final int LAMP_IS_BROKEN = 6;

    private final Hall hall = new Hall();
    private final Hall thought = new Hall();
    private final Hall snapshot = new Hall();
    private final History history = new History();
    private final Script script = new Script();
    private final Line written = new Line();
    private boolean hasSnapshot = false;
    private int errorPlace = -1;
    private int reason = 0;
    private int detail = 0;
    private int answer = 0;

    public QuakeRehearsal() {
    }

    public int cup(int floor, int grade) throws IllegalArgumentException, UnsupportedOperationException {
        return placed(CUP, floor, grade);
    }

    public int lamp(int floor, int length) throws IllegalArgumentException, UnsupportedOperationException {
        return placed(LAMP, floor, length);
    }

    public int cat(int floor, int likes) throws IllegalArgumentException, UnsupportedOperationException {
        return placed(CAT, floor, likes);
    }

    public int take(int prop) throws IndexOutOfBoundsException {
        if (change(TAKE, prop, 0) != DONE) {
            throw new IndexOutOfBoundsException("no such prop");
        }
        return answer;
    }

    public int cue(int prop, int strength)
            throws IndexOutOfBoundsException, IllegalArgumentException, UnsupportedOperationException {
        int outcome = change(CUE, prop, strength);
        if (outcome == NO_PROP) {
            throw new IndexOutOfBoundsException("no such prop");
        }
        if (outcome == WRONG) {
            throw new IllegalArgumentException("the strength is not from 0 to 9");
        }
        if (outcome == REFUSED) {
            throw new UnsupportedOperationException("the cue is refused");
        }
        return answer;
    }

    public int set(int strength) throws IllegalArgumentException, UnsupportedOperationException {
        return strengthTold(SET, strength);
    }

    public int shock() {
        change(SHOCK, 0, 0);
        return answer;
    }

    public int add(int strength) throws IllegalArgumentException, UnsupportedOperationException {
        return strengthTold(ADD, strength);
    }

    public int perform() throws UnsupportedOperationException {
        if (change(PERFORM, 0, 0) != DONE) {
            throw new UnsupportedOperationException("the programme is empty");
        }
        return answer;
    }

    public int quiet() {
        change(QUIET, 0, 0);
        return answer;
    }

    public int propOf(int prop, int what) throws IndexOutOfBoundsException, IllegalArgumentException {
        Prop found = propNumbered(prop);
        switch (what) {
            case 0: return found.kind;
            case 1: return found.floor;
            case 2: return found.measure;
            case 3: return found.damage;
            case 4: return found.broken ? 1 : 0;
            case 5: return found.cued;
            case 6: return found.tally;
            default: throw new IllegalArgumentException("what is not from 0 to 6");
        }
    }

    public int programme(int place) throws NoSuchElementException {
        if (place < 0 || place >= hall.plannedCount) {
            throw new NoSuchElementException("no such place in the programme");
        }
        return hall.plannedAt(place);
    }

    public int on(int strength, int floor, boolean isAgain) throws IllegalArgumentException {
        if (!isStrength(strength) || !isFloor(floor)) {
            throw new IllegalArgumentException("no such strength or floor");
        }
        return isAgain ? hall.reachAgain(strength, floor) : hall.reachFloorByFloor(strength, floor);
    }

    public int wouldMark(int strength) throws IllegalArgumentException {
        requireStrength(strength);
        return marksInThought(strength);
    }

    public int wouldBreak(int strength, boolean isAgain) throws IllegalArgumentException {
        requireStrength(strength);
        return isAgain ? hall.breakagesPropByProp(strength) : breakagesInThought(strength);
    }

    public int programmeBreaks() {
        thought.copyFrom(hall);
        thought.performProgramme();
        return thought.breakages - hall.breakages;
    }

    public int best() {
        int best = 1;
        int most = marksInThought(1);
        for (int strength = 2; strength <= MOST_STRENGTH; strength++) {
            int marks = marksInThought(strength);
            if (marks > most) {
                best = strength;
                most = marks;
            }
        }
        return best;
    }

    public int leastBreaking() throws NoSuchElementException {
        for (int strength = 1; strength <= MOST_STRENGTH; strength++) {
            if (breakagesInThought(strength) > 0) {
                return strength;
            }
        }
        throw new NoSuchElementException("no shock would break something");
    }

    public int shocksFor(int prop) throws IndexOutOfBoundsException {
        if (propNumbered(prop).broken) {
            return 0;
        }
        thought.copyFrom(hall);
        for (int count = 1; count <= MOST_TRIES; count++) {
            thought.performShock(hall.strength);
            if (thought.propAt(prop).broken) {
                return count;
            }
        }
        return 0;
    }

    public boolean isBroken(int prop) throws IndexOutOfBoundsException {
        return propNumbered(prop).broken;
    }

    public int cupAt(int place) throws NoSuchElementException {
        return numberInOrder(CUP, place);
    }

    public int lampAt(int place) throws NoSuchElementException {
        return numberInOrder(LAMP, place);
    }

    public int catAt(int place) throws NoSuchElementException {
        return numberInOrder(CAT, place);
    }

    public int onFloor(int kind, int floor) throws IllegalArgumentException {
        if (kind < CUP || kind > CAT || !isFloor(floor)) {
            throw new IllegalArgumentException("no such kind or floor");
        }
        return hall.countOn(kind, floor);
    }

    public int line(int prop) throws IndexOutOfBoundsException {
        written.writeProp(propNumbered(prop));
        return written.length;
    }

    public int programmeLine() {
        written.writeProgramme(hall);
        return written.length;
    }

    public char character(int index) throws IndexOutOfBoundsException {
        if (index < 0 || index >= written.length) {
            throw new IndexOutOfBoundsException("no such character in the line");
        }
        return written.signAt(index);
    }

    public int append(char c) throws IllegalStateException {
        if (script.length >= MOST_SIGNS) {
            throw new IllegalStateException("the input contains 60 characters");
        }
        script.put(c);
        return script.length;
    }

    public int run() throws IllegalArgumentException, UnsupportedOperationException {
        errorPlace = script.read();
        script.length = 0;
        if (errorPlace >= 0) {
            throw new IllegalArgumentException("the text has an error");
        }
        history.note(hall);
        int outcome = DONE;
        for (int i = 0; i < script.orderCount && outcome == DONE; i++) {
            outcome = tryOrder(script.wordAt(i), script.firstAt(i), script.secondAt(i));
        }
        if (outcome == DONE) {
            history.keepNote();
            return script.orderCount;
        }
        history.copyNoteTo(hall);
        if (outcome == REFUSED) {
            throw new UnsupportedOperationException("an order is refused");
        }
        throw new IllegalArgumentException("an order cannot be carried out");
    }

    public int errorPosition() {
        return errorPlace;
    }

    public int refusal(boolean isDetail) throws NoSuchElementException {
        if (reason == 0) {
            throw new NoSuchElementException("nothing was refused");
        }
        return isDetail ? detail : reason;
    }

    public int account(int what) throws IllegalArgumentException {
        switch (what) {
            case 0: return hall.propCount;
            case 1: return hall.countOf(CUP);
            case 2: return hall.countOf(LAMP);
            case 3: return hall.countOf(CAT);
            case 4: return hall.countBroken();
            case 5: return hall.strength;
            case 6: return hall.shocks;
            case 7: return hall.encores;
            case 8: return hall.marks;
            case 9: return hall.breakages;
            case 10: return hall.plannedCount;
            case 11: return script.length;
            case 12: return history.depth;
            default: throw new IllegalArgumentException("what is not from 0 to 12");
        }
    }

    public boolean isWell() {
        return isReachAlike() && areBreakagesAlike() && hall.isDamageRight();
    }

    public double meanGrade() throws ArithmeticException {
        int cups = hall.countOf(CUP);
        if (cups == 0) {
            throw new ArithmeticException("there are no cups");
        }
        return (double) hall.sumOfGrades() / (double) cups;
    }

    public float brokenShare() throws ArithmeticException {
        if (hall.propCount == 0) {
            throw new ArithmeticException("there are no props");
        }
        return (float) hall.countBroken() / (float) hall.propCount;
    }

    public int undo() throws IllegalStateException {
        if (history.depth == 0) {
            throw new IllegalStateException("no change can be undone");
        }
        history.stepBack(hall);
        return history.depth;
    }

    public int save() {
        snapshot.copyFrom(hall);
        hasSnapshot = true;
        return hall.propCount;
    }

    public int restore() throws IllegalStateException {
        if (!hasSnapshot) {
            throw new IllegalStateException("there is no snapshot");
        }
        hall.copyFrom(snapshot);
        history.depth = 0;
        return hall.propCount;
    }

    private static boolean isFloor(int floor) {
        return floor >= 0 && floor < FLOORS;
    }

    private static boolean isStrength(int strength) {
        return strength >= 1 && strength <= MOST_STRENGTH;
    }

    private static void requireStrength(int strength) {
        if (!isStrength(strength)) {
            throw new IllegalArgumentException("the strength is not from 1 to 9");
        }
    }

    private Prop propNumbered(int prop) {
        if (prop < 0 || prop >= hall.propCount) {
            throw new IndexOutOfBoundsException("no such prop");
        }
        return hall.propAt(prop);
    }

    private int numberInOrder(int kind, int place) {
        int number = hall.numberInOrder(kind, place);
        if (number < 0) {
            throw new NoSuchElementException("no such place in the order");
        }
        return number;
    }

    private int placed(int kind, int floor, int measure) {
        int outcome = change(kind, floor, measure);
        if (outcome == WRONG) {
            throw new IllegalArgumentException("no such floor or measure");
        }
        if (outcome == REFUSED) {
            throw new UnsupportedOperationException("the hall or the floor is full");
        }
        return answer;
    }

    private int strengthTold(int word, int strength) {
        int outcome = change(word, strength, 0);
        if (outcome == WRONG) {
            throw new IllegalArgumentException("the strength is not from 1 to 9");
        }
        if (outcome == REFUSED) {
            throw new UnsupportedOperationException("the strength is refused");
        }
        return answer;
    }

    /** Tries an order as a change of its own, which can be undone if it is done. */
    private int change(int word, int first, int second) {
        history.note(hall);
        int outcome = tryOrder(word, first, second);
        if (outcome == DONE) {
            history.keepNote();
        }
        return outcome;
    }

    /** Carries out an order in the hall and keeps its answer, or tells why it cannot be and changes nothing there. */
    private int tryOrder(int word, int first, int second) {
        switch (word) {
            case CUP:
            case LAMP:
            case CAT:
                return tryPlacing(word, first, second);
            case TAKE:
                return tryTaking(first);
            case CUE:
                return tryCueing(first, second);
            case SET:
                return trySetting(first);
            case SHOCK:
                return answered(hall.performShock(hall.strength));
            case ADD:
                return tryAdding(first);
            case PERFORM:
                return hall.plannedCount == 0 ? refuse(IS_EMPTY, hall.shocks) : answered(hall.performProgramme());
            case QUIET:
                return answered(hall.calm());
            default:
                return WRONG;
        }
    }

    private int tryPlacing(int kind, int floor, int measure) {
        int least = kind == CAT ? 0 : 1;
        if (!isFloor(floor) || measure < least || measure > MOST_STRENGTH) {
            return WRONG;
        }
        if (hall.propCount >= MOST_PROPS) {
            return refuse(IS_FULL, hall.propCount);
        }
        if (hall.countOn(kind, floor) >= MOST_ON_FLOOR) {
            return refuse(FLOOR_IS_FULL, floor);
        }
        return answered(hall.placeProp(kind, floor, measure));
    }

    private int tryTaking(int prop) {
        if (prop < 0 || prop >= hall.propCount) {
            return NO_PROP;
        }
        return answered(hall.removeProp(prop));
    }

    private int tryCueing(int prop, int strength) {
        if (prop < 0 || prop >= hall.propCount) {
            return NO_PROP;
        }
        if (strength != 0 && !isStrength(strength)) {
            return WRONG;
        }
        Prop lamp = hall.propAt(prop);
        if (lamp.kind != LAMP) {
            return refuse(IS_NO_LAMP, lamp.floor);
        }
        if (lamp.broken) {
            return refuse(LAMP_IS_BROKEN, lamp.damage);
        }
        if (lamp.cued == strength) {
            return refuse(IS_SO_ALREADY, strength);
        }
        int before = lamp.cued;
        lamp.cued = strength;
        return answered(before);
    }

    private int trySetting(int strength) {
        if (!isStrength(strength)) {
            return WRONG;
        }
        if (hall.strength == strength) {
            return refuse(IS_SO_ALREADY, strength);
        }
        int before = hall.strength;
        hall.strength = strength;
        return answered(before);
    }

    private int tryAdding(int strength) {
        if (!isStrength(strength)) {
            return WRONG;
        }
        if (hall.plannedCount >= MOST_PLANNED) {
            return refuse(IS_FULL, hall.plannedCount);
        }
        return answered(hall.plan(strength));
    }

    private int answered(int number) {
        answer = number;
        return DONE;
    }

    private int refuse(int why, int number) {
        reason = why;
        detail = number;
        return REFUSED;
    }

    private int marksInThought(int strength) {
        thought.copyFrom(hall);
        return thought.performShock(strength);
    }

    private int breakagesInThought(int strength) {
        thought.copyFrom(hall);
        thought.performShock(strength);
        return thought.breakages - hall.breakages;
    }

    private boolean isReachAlike() {
        for (int strength = 1; strength <= MOST_STRENGTH; strength++) {
            for (int floor = 0; floor < FLOORS; floor++) {
                if (hall.reachFloorByFloor(strength, floor) != hall.reachAgain(strength, floor)) {
                    return false;
                }
            }
        }
        return true;
    }

    private boolean areBreakagesAlike() {
        for (int strength = 1; strength <= MOST_STRENGTH; strength++) {
            if (breakagesInThought(strength) != hall.breakagesPropByProp(strength)) {
                return false;
            }
        }
        return true;
    }

    /** A cup, a lamp or a cat. */
    private static final class Prop {
        int kind = 0;
        int floor = 0;
        /** A cup's grade, a lamp's length, or what a cat likes. */
        int measure = 0;
        /** A cup's cracks or a lamp's swing. */
        int damage = 0;
        boolean broken = false;
        int cued = 0;
        /** How often a cup rattled, or the marks that a cat gave. */
        int tally = 0;

        void begin(int newKind, int newFloor, int newMeasure) {
            kind = newKind;
            floor = newFloor;
            measure = newMeasure;
            damage = 0;
            broken = false;
            cued = 0;
            tally = 0;
        }

        void copyFrom(Prop other) {
            kind = other.kind;
            floor = other.floor;
            measure = other.measure;
            damage = other.damage;
            broken = other.broken;
            cued = other.cued;
            tally = other.tally;
        }

        /** Tells whether the cup breaks by it. */
        boolean shakeCup(int reach) {
            if (broken) {
                return false;
            }
            if (reach >= measure) {
                damage++;
                measure = measure > 1 ? measure - 1 : 1;
                broken = damage >= MOST_CRACKS;
            } else if (2 * reach >= measure) {
                tally++;
            }
            return broken;
        }

        /** Tells whether the lamp falls by it. */
        boolean shakeLamp(int reach, int strength) {
            if (broken) {
                return false;
            }
            damage = swingAfter(reach, strength);
            broken = damage > MOST_SWING;
            return broken;
        }

        int swingAfter(int reach, int strength) {
            int swing = damage > 0 ? damage - 1 : 0;
            if (reach > 0) {
                swing = damage + reach + measure % reach;
            }
            return cued == strength ? swing / 2 : swing;
        }

        /** Returns the marks that the cat gives. */
        int judge(int reach, boolean isFrightened) {
            if (isFrightened) {
                measure = measure > 0 ? measure - 1 : 0;
                return 0;
            }
            int marks = MOST_MARKS - Math.abs(measure - reach);
            if (marks < 0) {
                marks = 0;
            }
            tally += marks;
            return marks;
        }

        boolean wouldBreakBy(int reach, int strength) {
            if (kind == CUP) {
                return damage == MOST_CRACKS - 1 && reach >= measure;
            }
            return kind == LAMP && damage <= MOST_SWING && swingAfter(reach, strength) > MOST_SWING;
        }

        boolean isDamageRight() {
            if (kind == CUP) {
                return broken == (damage == MOST_CRACKS);
            }
            return kind != LAMP || broken == (damage > MOST_SWING);
        }

        /** Is below 0 if this prop stands ahead of another one of its kind, above 0 if behind, else 0. */
        int orderTo(Prop other) {
            if (kind == CUP) {
                int byGrade = Integer.compare(other.measure, measure);
                return byGrade != 0 ? byGrade : Integer.compare(damage, other.damage);
            }
            if (kind == LAMP) {
                int bySwing = Integer.compare(other.damage, damage);
                return bySwing != 0 ? bySwing : Integer.compare(other.measure, measure);
            }
            return Integer.compare(other.tally, tally);
        }
    }

    /** All that changes can change. */
    private static final class Hall {
        final Prop[] props = new Prop[MOST_PROPS];
        final Prop nobody = new Prop();
        int propCount = 0;
        final int[] planned = new int[MOST_PLANNED];
        int plannedCount = 0;
        int strength = 1;
        int shocks = 0;
        int encores = 0;
        int marks = 0;
        int breakages = 0;
        /** Rows of the shock that is told of at the moment, made once and used again. */
        final boolean[] hasCat = new boolean[FLOORS];
        final int[] reach = new int[FLOORS];
        final boolean[] hasBreakage = new boolean[FLOORS];

        Hall() {
            for (int i = 0; i < MOST_PROPS; i++) {
                props[i] = new Prop();
            }
        }

        /** Returns the prop of a number, or one of no kind where there is none. */
        Prop propAt(int number) {
            if (number < 0 || number >= propCount || number >= props.length) {
                return nobody;
            }
            Prop prop = props[number];
            return prop == null ? nobody : prop;
        }

        int plannedAt(int place) {
            return place >= 0 && place < planned.length ? planned[place] : 0;
        }

        void copyFrom(Hall other) {
            propCount = other.propCount;
            for (int i = 0; i < propCount; i++) {
                propAt(i).copyFrom(other.propAt(i));
            }
            plannedCount = other.plannedCount;
            for (int i = 0; i < MOST_PLANNED; i++) {
                planned[i] = other.planned[i];
            }
            strength = other.strength;
            shocks = other.shocks;
            encores = other.encores;
            marks = other.marks;
            breakages = other.breakages;
        }

        int placeProp(int kind, int floor, int measure) {
            int number = propCount;
            propCount++;
            propAt(number).begin(kind, floor, measure);
            return number;
        }

        int removeProp(int number) {
            for (int i = number; i < propCount - 1; i++) {
                propAt(i).copyFrom(propAt(i + 1));
            }
            propCount--;
            return propCount;
        }

        int plan(int newStrength) {
            if (plannedCount >= 0 && plannedCount < planned.length) {
                planned[plannedCount] = newStrength;
                plannedCount++;
            }
            return plannedCount;
        }

        int countOf(int kind) {
            int count = 0;
            for (int i = 0; i < propCount; i++) {
                if (propAt(i).kind == kind) {
                    count++;
                }
            }
            return count;
        }

        int countOn(int kind, int floor) {
            int count = 0;
            for (int i = 0; i < propCount; i++) {
                Prop prop = propAt(i);
                if (prop.kind == kind && prop.floor == floor) {
                    count++;
                }
            }
            return count;
        }

        int countBroken() {
            int count = 0;
            for (int i = 0; i < propCount; i++) {
                if (propAt(i).broken) {
                    count++;
                }
            }
            return count;
        }

        int sumOfGrades() {
            int sum = 0;
            for (int i = 0; i < propCount; i++) {
                Prop prop = propAt(i);
                if (prop.kind == CUP) {
                    sum += prop.measure;
                }
            }
            return sum;
        }

        int reachFloorByFloor(int ofStrength, int floor) {
            spread(ofStrength);
            return reachOn(floor);
        }

        int reachAgain(int ofStrength, int floor) {
            int lost = floor;
            for (int below = 0; below < floor; below++) {
                if (countOn(CAT, below) > 0) {
                    lost++;
                }
            }
            return ofStrength > lost ? ofStrength - lost : 0;
        }

        /** Fills the row of how strong a shock is on each floor. */
        void spread(int ofStrength) {
            findCats();
            int left = ofStrength;
            for (int floor = 0; floor < FLOORS; floor++) {
                reach[floor] = left;
                left -= hasCat[floor] ? 2 : 1;
                if (left < 0) {
                    left = 0;
                }
            }
        }

        void findCats() {
            for (int floor = 0; floor < FLOORS; floor++) {
                hasCat[floor] = false;
            }
            for (int i = 0; i < propCount; i++) {
                Prop prop = propAt(i);
                if (prop.kind == CAT && isFloor(prop.floor)) {
                    hasCat[prop.floor] = true;
                }
            }
        }

        int reachOn(int floor) {
            return isFloor(floor) ? reach[floor] : 0;
        }

        boolean isFrightening(int floor) {
            return isFloor(floor) && hasBreakage[floor];
        }

        void noteBreakage(int floor) {
            breakages++;
            if (isFloor(floor)) {
                hasBreakage[floor] = true;
            }
        }

        /** Returns the marks of the shock. */
        int performShock(int ofStrength) {
            spread(ofStrength);
            shakeCups();
            shakeLamps(ofStrength);
            int given = askCats();
            shocks++;
            marks += given;
            return given;
        }

        /** Begins the row of floors on which something breaks, as cups are shaken first. */
        void shakeCups() {
            for (int floor = 0; floor < FLOORS; floor++) {
                hasBreakage[floor] = false;
            }
            for (int i = 0; i < propCount; i++) {
                Prop prop = propAt(i);
                if (prop.kind == CUP && prop.shakeCup(reachOn(prop.floor))) {
                    noteBreakage(prop.floor);
                }
            }
        }

        void shakeLamps(int ofStrength) {
            for (int i = 0; i < propCount; i++) {
                Prop prop = propAt(i);
                if (prop.kind == LAMP && prop.shakeLamp(reachOn(prop.floor), ofStrength)) {
                    noteBreakage(prop.floor);
                }
            }
        }

        int askCats() {
            int given = 0;
            for (int i = 0; i < propCount; i++) {
                Prop prop = propAt(i);
                if (prop.kind == CAT) {
                    given += prop.judge(reachOn(prop.floor), isFrightening(prop.floor));
                }
            }
            return given;
        }

        /** Returns how many encores came. */
        int performProgramme() {
            int cats = countOf(CAT);
            int came = 0;
            for (int i = 0; i < plannedCount; i++) {
                int half = plannedAt(i) / 2;
                int given = performShock(plannedAt(i));
                if (cats > 0 && given >= ENCORE_MARKS * cats && half >= 1) {
                    performShock(half);
                    came++;
                }
            }
            plannedCount = 0;
            encores += came;
            return came;
        }

        /** Returns the swing of all lamps that are not broken together. */
        int calm() {
            int sum = 0;
            for (int i = 0; i < propCount; i++) {
                Prop prop = propAt(i);
                if (prop.kind == LAMP && !prop.broken) {
                    prop.damage /= 2;
                    sum += prop.damage;
                }
            }
            return sum;
        }

        int breakagesPropByProp(int ofStrength) {
            int count = 0;
            for (int i = 0; i < propCount; i++) {
                Prop prop = propAt(i);
                if (prop.wouldBreakBy(reachAgain(ofStrength, prop.floor), ofStrength)) {
                    count++;
                }
            }
            return count;
        }

        boolean isDamageRight() {
            for (int i = 0; i < propCount; i++) {
                if (!propAt(i).isDamageRight()) {
                    return false;
                }
            }
            return true;
        }

        /** Returns the number of the prop at a place in the order of its kind, or -1. */
        int numberInOrder(int kind, int place) {
            for (int i = 0; i < propCount; i++) {
                if (propAt(i).kind == kind && countAhead(i) == place) {
                    return i;
                }
            }
            return -1;
        }

        int countAhead(int number) {
            Prop prop = propAt(number);
            int count = 0;
            for (int i = 0; i < propCount; i++) {
                Prop other = propAt(i);
                int order = other.orderTo(prop);
                if (other.kind == prop.kind && (order < 0 || order == 0 && i < number)) {
                    count++;
                }
            }
            return count;
        }
    }

    /** What the hall was ahead of the latest changes, in a ring with one row more, for a note that may be dropped. */
    private static final class History {
        final Hall[] kept = new Hall[MOST_UNDONE + 1];
        int next = 0;
        int depth = 0;

        History() {
            for (int i = 0; i < MOST_UNDONE + 1; i++) {
                kept[i] = new Hall();
            }
        }

        void note(Hall hall) {
            if (next >= 0 && next < kept.length) {
                Hall row = kept[next];
                if (row != null) {
                    row.copyFrom(hall);
                }
            }
        }

        void copyNoteTo(Hall hall) {
            if (next >= 0 && next < kept.length) {
                Hall row = kept[next];
                if (row != null) {
                    hall.copyFrom(row);
                }
            }
        }

        void keepNote() {
            next = next < MOST_UNDONE ? next + 1 : 0;
            if (depth < MOST_UNDONE) {
                depth++;
            }
        }

        void stepBack(Hall hall) {
            next = next > 0 ? next - 1 : MOST_UNDONE;
            depth--;
            copyNoteTo(hall);
        }
    }

    /** The input, and the orders that were read from it. */
    private static final class Script {
        final char[] signs = new char[MOST_SIGNS];
        int length = 0;
        final int[] words = new int[MOST_ORDERS];
        final int[] firsts = new int[MOST_ORDERS];
        final int[] seconds = new int[MOST_ORDERS];
        int orderCount = 0;
        /** The offset that is read next; where reading fails, that of the error. */
        int offset = 0;

        void put(char sign) {
            if (length >= 0 && length < signs.length) {
                signs[length] = sign;
                length++;
            }
        }

        /** Returns the error position, or -1 if there is no error. */
        int read() {
            offset = 0;
            orderCount = 0;
            for (int i = 0; i < MOST_ORDERS; i++) {
                if (!readOrder(i)) {
                    return offset;
                }
                orderCount++;
                if (offset >= length) {
                    return -1;
                }
                if (!readSign(';')) {
                    return offset;
                }
            }
            return offset;
        }

        boolean readOrder(int order) {
            int word = readWord();
            if (word == 0 || order < 0 || order >= MOST_ORDERS) {
                return false;
            }
            words[order] = word;
            firsts[order] = 0;
            seconds[order] = 0;
            if (word == SHOCK || word == PERFORM || word == QUIET) {
                return true;
            }
            boolean isProp = word == TAKE || word == CUE;
            firsts[order] = readNumber(isProp ? 2 : 1);
            if (firsts[order] < 0) {
                return false;
            }
            if (word == TAKE || word == SET || word == ADD) {
                return true;
            }
            seconds[order] = readNumber(1);
            return seconds[order] >= 0;
        }

        /** Returns the word that stands next, or 0; then the offset is behind the letters that could begin one. */
        int readWord() {
            int most = 0;
            for (int word = CUP; word <= QUIET; word++) {
                String name = nameOf(word);
                int alike = countAlike(name);
                if (alike == name.length()) {
                    offset += alike;
                    return word;
                }
                if (alike > most) {
                    most = alike;
                }
            }
            offset += most;
            return 0;
        }

        int countAlike(String name) {
            for (int i = 0; i < name.length(); i++) {
                if (!isNext(offset + i, name.charAt(i))) {
                    return i;
                }
            }
            return name.length();
        }

        /** Reads a blank and a number of so many digits at most; returns -1 if they do not stand next. */
        int readNumber(int digits) {
            if (!readSign(' ')) {
                return -1;
            }
            int number = readDigit();
            if (number >= 0 && digits > 1) {
                int second = readDigit();
                return second >= 0 ? number * 10 + second : number;
            }
            return number;
        }

        int readDigit() {
            if (offset < 0 || offset >= length || offset >= signs.length) {
                return -1;
            }
            char sign = signs[offset];
            if (sign < '0' || sign > '9') {
                return -1;
            }
            offset++;
            return sign - '0';
        }

        boolean readSign(char sign) {
            if (!isNext(offset, sign)) {
                return false;
            }
            offset++;
            return true;
        }

        boolean isNext(int place, char sign) {
            return place >= 0 && place < length && place < signs.length && signs[place] == sign;
        }

        int wordAt(int order) {
            return order >= 0 && order < MOST_ORDERS ? words[order] : 0;
        }

        int firstAt(int order) {
            return order >= 0 && order < MOST_ORDERS ? firsts[order] : 0;
        }

        int secondAt(int order) {
            return order >= 0 && order < MOST_ORDERS ? seconds[order] : 0;
        }

        static String nameOf(int word) {
            switch (word) {
                case CUP: return "cup";
                case LAMP: return "lamp";
                case CAT: return "cat";
                case TAKE: return "take";
                case CUE: return "cue";
                case SET: return "set";
                case SHOCK: return "shock";
                case ADD: return "add";
                case PERFORM: return "perform";
                default: return "quiet";
            }
        }
    }

    /** The line that was written last. */
    private static final class Line {
        final char[] signs = new char[LINE_ROOM];
        int length = 0;

        char signAt(int index) {
            return index >= 0 && index < signs.length ? signs[index] : ' ';
        }

        void put(char sign) {
            if (length >= 0 && length < signs.length) {
                signs[length] = sign;
                length++;
            }
        }

        /** Puts a number from 0 to 99. */
        void putNumber(int number) {
            if (number > 9) {
                put((char) ('0' + number / 10));
            }
            put((char) ('0' + number % 10));
        }

        void writeProp(Prop prop) {
            length = 0;
            put(prop.kind == CUP ? 'c' : prop.kind == LAMP ? 'l' : 'k');
            putNumber(prop.floor);
            put(':');
            putNumber(prop.measure);
            if (prop.kind == CUP) {
                for (int i = 0; i < prop.damage; i++) {
                    put('\'');
                }
            }
            if (prop.kind == LAMP) {
                put('~');
                putNumber(prop.damage);
            }
            if (prop.cued > 0) {
                put('#');
                putNumber(prop.cued);
            }
            if (prop.broken) {
                put('!');
            }
        }

        void writeProgramme(Hall hall) {
            length = 0;
            for (int i = 0; i < hall.plannedCount; i++) {
                putNumber(hall.plannedAt(i));
            }
        }
    }
}
