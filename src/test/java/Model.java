import java.util.ArrayDeque;
import java.util.ArrayList;
import java.util.Comparator;
import java.util.Deque;
import java.util.List;
import java.util.NoSuchElementException;
import java.util.regex.Matcher;
import java.util.regex.Pattern;

/** The document once more, in the plainest Java library there is, to be compared with the class. */
final class Model {
    record Prop(int kind, int floor, int number, int damage, int cue, int tally) {
        boolean broken() {
            return kind == 1 && damage == 3 || kind == 2 && damage > 20;
        }
    }

    record State(List<Prop> props, List<Integer> programme, int strength, int shocks, int encores, int marks, int broke) {
    }

    record Outcome(State state, int answer) {
    }

    private static final String ORDER = "(?:(?:cup|lamp|cat) [0-9] [0-9]|take [0-9]{1,2}|cue [0-9]{1,2} [0-9]"
        + "|(?:set|add) [0-9]|shock|perform|quiet)";
    private static final Pattern TEXT = Pattern.compile(ORDER + "(?:;" + ORDER + ")*");

    private State now = new State(List.of(), List.of(), 1, 0, 0, 0, 0);
    private State snapshot = null;
    private final Deque<State> past = new ArrayDeque<>();
    private String input = "";
    private String line = "";
    private int errorPosition = -1;
    private int reason = 0;
    private int detail = 0;

    int change(String name, int... told) {
        Outcome outcome = done(now, name, told);
        remember(outcome.state());
        return outcome.answer();
    }

    private void remember(State next) {
        past.addLast(now);
        if (past.size() > 8) {
            past.removeFirst();
        }
        now = next;
    }

    private Outcome done(State s, String name, int... told) {
        switch (name) {
            case "cup": return placed(s, 1, told[0], told[1]);
            case "lamp": return placed(s, 2, told[0], told[1]);
            case "cat": return placed(s, 3, told[0], told[1]);
            case "take": return taken(s, told[0]);
            case "cue": return cued(s, told[0], told[1]);
            case "set": return setTo(s, told[0]);
            case "shock": return shaken(s, s.strength());
            case "add": return added(s, told[0]);
            case "perform": return performed(s);
            default: return calmed(s);
        }
    }

    private UnsupportedOperationException refused(int why, int number) {
        reason = why;
        detail = number;
        return new UnsupportedOperationException();
    }

    private static void need(boolean fits) {
        if (!fits) {
            throw new IllegalArgumentException();
        }
    }

    private static void needProp(State s, int prop) {
        if (prop < 0 || prop >= s.props().size()) {
            throw new IndexOutOfBoundsException();
        }
    }

    private static State with(State s, List<Prop> props) {
        return new State(props, s.programme(), s.strength(), s.shocks(), s.encores(), s.marks(), s.broke());
    }

    private static State withProgramme(State s, List<Integer> programme) {
        return new State(s.props(), programme, s.strength(), s.shocks(), s.encores(), s.marks(), s.broke());
    }

    private Outcome placed(State s, int kind, int floor, int number) {
        need(floor >= 0 && floor <= 4 && number <= 9 && number >= (kind == 3 ? 0 : 1));
        if (s.props().size() == 12) {
            throw refused(1, 12);
        }
        if (s.props().stream().filter(p -> p.kind() == kind && p.floor() == floor).count() == 5) {
            throw refused(2, floor);
        }
        List<Prop> props = new ArrayList<>(s.props());
        props.add(new Prop(kind, floor, number, 0, 0, 0));
        return new Outcome(with(s, props), props.size() - 1);
    }

    private Outcome taken(State s, int prop) {
        needProp(s, prop);
        List<Prop> props = new ArrayList<>(s.props());
        props.remove(prop);
        return new Outcome(with(s, props), props.size());
    }

    private Outcome cued(State s, int prop, int strength) {
        needProp(s, prop);
        need(strength >= 0 && strength <= 9);
        Prop p = s.props().get(prop);
        if (p.kind() != 2) {
            throw refused(4, p.floor());
        }
        if (p.broken()) {
            throw refused(6, p.damage());
        }
        if (p.cue() == strength) {
            throw refused(3, strength);
        }
        List<Prop> props = new ArrayList<>(s.props());
        props.set(prop, new Prop(2, p.floor(), p.number(), p.damage(), strength, 0));
        return new Outcome(with(s, props), p.cue());
    }

    private Outcome setTo(State s, int strength) {
        need(strength >= 1 && strength <= 9);
        if (strength == s.strength()) {
            throw refused(3, strength);
        }
        return new Outcome(new State(s.props(), s.programme(), strength, s.shocks(), s.encores(), s.marks(), s.broke()),
            s.strength());
    }

    private Outcome added(State s, int strength) {
        need(strength >= 1 && strength <= 9);
        if (s.programme().size() == 8) {
            throw refused(1, 8);
        }
        List<Integer> programme = new ArrayList<>(s.programme());
        programme.add(strength);
        return new Outcome(withProgramme(s, programme), programme.size());
    }

    private Outcome performed(State s) {
        if (s.programme().isEmpty()) {
            throw refused(5, s.shocks());
        }
        State left = s;
        while (!left.programme().isEmpty()) {
            int strength = left.programme().get(0);
            left = withProgramme(left, left.programme().subList(1, left.programme().size()));
            Outcome outcome = shaken(left, strength);
            left = outcome.state();
            long cats = left.props().stream().filter(p -> p.kind() == 3).count();
            if (cats >= 1 && outcome.answer() >= 3 * cats && strength > 1) {
                State e = shaken(left, strength / 2).state();
                left = new State(e.props(), e.programme(), e.strength(), e.shocks(), e.encores() + 1, e.marks(), e.broke());
            }
        }
        return new Outcome(left, left.encores() - s.encores());
    }

    private Outcome calmed(State s) {
        List<Prop> props = new ArrayList<>();
        int sum = 0;
        for (Prop p : s.props()) {
            boolean swings = p.kind() == 2 && !p.broken();
            props.add(swings ? new Prop(2, p.floor(), p.number(), p.damage() / 2, p.cue(), 0) : p);
            sum += swings ? p.damage() / 2 : 0;
        }
        return new Outcome(with(s, props), sum);
    }

    static int on(State s, int strength, int floor) {
        if (floor == 0) {
            return strength;
        }
        int here = Math.max(0, on(s, strength, floor - 1) - 1);
        boolean cat = s.props().stream().anyMatch(p -> p.kind() == 3 && p.floor() == floor - 1);
        return cat ? Math.max(0, here - 1) : here;
    }

    private static Outcome shaken(State s, int strength) {
        List<Prop> props = new ArrayList<>();
        for (Prop p : s.props()) {
            int here = on(s, strength, p.floor());
            props.add(p.broken() ? p : p.kind() == 1 ? cupShaken(p, here) : p.kind() == 2 ? lampShaken(p, here, strength) : p);
        }
        int[] brokeOn = new int[5];
        for (int i = 0; i < props.size(); i++) {
            if (props.get(i).broken() && !s.props().get(i).broken()) {
                brokeOn[props.get(i).floor()]++;
            }
        }
        int marks = 0;
        for (int i = 0; i < props.size(); i++) {
            Prop p = props.get(i);
            if (p.kind() == 3 && brokeOn[p.floor()] > 0) {
                props.set(i, new Prop(3, p.floor(), Math.max(0, p.number() - 1), 0, 0, p.tally()));
            } else if (p.kind() == 3) {
                int given = Math.max(0, 5 - Math.abs(p.number() - on(s, strength, p.floor())));
                props.set(i, new Prop(3, p.floor(), p.number(), 0, 0, p.tally() + given));
                marks += given;
            }
        }
        int broke = brokeOn[0] + brokeOn[1] + brokeOn[2] + brokeOn[3] + brokeOn[4];
        return new Outcome(new State(props, s.programme(), s.strength(), s.shocks() + 1, s.encores(), s.marks() + marks,
            s.broke() + broke), marks);
    }

    private static Prop cupShaken(Prop p, int here) {
        if (here >= p.number()) {
            return new Prop(1, p.floor(), Math.max(1, p.number() - 1), p.damage() + 1, 0, p.tally());
        }
        return here * 2 >= p.number() ? new Prop(1, p.floor(), p.number(), p.damage(), 0, p.tally() + 1) : p;
    }

    private static Prop lampShaken(Prop p, int here, int strength) {
        int swing = here == 0 ? Math.max(0, p.damage() - 1) : p.damage() + (here + p.number() % here);
        return new Prop(2, p.floor(), p.number(), strength == p.cue() ? swing / 2 : swing, p.cue(), 0);
    }

    int propOf(int prop, int what) {
        needProp(now, prop);
        need(what >= 0 && what <= 6);
        Prop p = now.props().get(prop);
        return new int[] {p.kind(), p.floor(), p.number(), p.damage(), p.broken() ? 1 : 0, p.cue(), p.tally()}[what];
    }

    int programme(int place) {
        if (place < 0 || place >= now.programme().size()) {
            throw new NoSuchElementException();
        }
        return now.programme().get(place);
    }

    int on(int strength, int floor) {
        need(strength >= 1 && strength <= 9 && floor >= 0 && floor <= 4);
        return on(now, strength, floor);
    }

    int wouldMark(int strength) {
        need(strength >= 1 && strength <= 9);
        return shaken(now, strength).answer();
    }

    int wouldBreak(int strength) {
        need(strength >= 1 && strength <= 9);
        return shaken(now, strength).state().broke() - now.broke();
    }

    int programmeBreaks() {
        return now.programme().isEmpty() ? 0 : performed(now).state().broke() - now.broke();
    }

    int best() {
        int best = 9;
        for (int strength = 9; strength >= 1; strength--) {
            best = wouldMark(strength) >= wouldMark(best) ? strength : best;
        }
        return best;
    }

    int leastBreaking() {
        for (int strength = 1; strength <= 9; strength++) {
            if (wouldBreak(strength) > 0) {
                return strength;
            }
        }
        throw new NoSuchElementException();
    }

    int shocksFor(int prop) {
        needProp(now, prop);
        State s = now;
        for (int count = 0; count <= 30; count++) {
            if (s.props().get(prop).broken()) {
                return count;
            }
            s = shaken(s, s.strength()).state();
        }
        return 0;
    }

    int at(int kind, int place) {
        Comparator<Integer> order = Comparator.comparing(i -> kind == 1 ? -prop(i).number() : kind == 2 ? -prop(i).damage()
            : -prop(i).tally());
        order = order.thenComparing(i -> kind == 1 ? prop(i).damage() : kind == 2 ? -prop(i).number() : 0);
        List<Integer> numbers = new ArrayList<>();
        for (int i = 0; i < now.props().size(); i++) {
            if (prop(i).kind() == kind) {
                numbers.add(i);
            }
        }
        numbers.sort(order);
        if (place < 0 || place >= numbers.size()) {
            throw new NoSuchElementException();
        }
        return numbers.get(place);
    }

    private Prop prop(int number) {
        return now.props().get(number);
    }

    int onFloor(int kind, int floor) {
        need(kind >= 1 && kind <= 3 && floor >= 0 && floor <= 4);
        return (int) now.props().stream().filter(p -> p.kind() == kind && p.floor() == floor).count();
    }

    int line(int prop) {
        needProp(now, prop);
        Prop p = prop(prop);
        line = "?clk".charAt(p.kind()) + "" + p.floor() + ":" + p.number();
        line += p.kind() == 1 ? "'".repeat(p.damage()) : p.kind() == 2 ? "~" + p.damage() : "";
        line += (p.cue() > 0 ? "#" + p.cue() : "") + (p.broken() ? "!" : "");
        return line.length();
    }

    int programmeLine() {
        line = "";
        now.programme().forEach(strength -> line += strength);
        return line.length();
    }

    int character(int index) {
        if (index < 0 || index >= line.length()) {
            throw new IndexOutOfBoundsException();
        }
        return line.charAt(index);
    }

    int append(char c) {
        if (input.length() == 60) {
            throw new IllegalStateException();
        }
        input += c;
        return input.length();
    }

    int run() {
        String text = input;
        input = "";
        errorPosition = errorOf(text);
        need(errorPosition < 0);
        State s = now;
        String[] orders = text.split(";");
        for (String order : orders) {
            String[] parts = order.split(" ");
            int[] told = new int[parts.length - 1];
            for (int i = 0; i < told.length; i++) {
                told[i] = Integer.parseInt(parts[i + 1]);
            }
            try {
                s = done(s, parts[0], told).state();
            } catch (IndexOutOfBoundsException e) {
                throw new IllegalArgumentException(e);
            }
        }
        remember(s);
        return orders.length;
    }

    /** The longest beginning that a longer text could have, unless the text has no error. */
    private static int errorOf(String text) {
        if (TEXT.matcher(text).matches()) {
            return -1;
        }
        int longest = text.length();
        while (longest > 0) {
            Matcher matcher = TEXT.matcher(text.substring(0, longest));
            if (matcher.matches() || matcher.hitEnd()) {
                break;
            }
            longest--;
        }
        return longest;
    }

    int errorPosition() {
        return errorPosition;
    }

    int refusal(boolean isDetail) {
        if (reason == 0) {
            throw new NoSuchElementException();
        }
        return isDetail ? detail : reason;
    }

    int account(int what) {
        need(what >= 0 && what <= 12);
        int[] kinds = new int[4];
        now.props().forEach(p -> kinds[p.kind()]++);
        int broken = (int) now.props().stream().filter(Prop::broken).count();
        return new int[] {now.props().size(), kinds[1], kinds[2], kinds[3], broken, now.strength(), now.shocks(),
            now.encores(), now.marks(), now.broke(), now.programme().size(), input.length(), past.size()}[what];
    }

    double meanGrade() {
        return now.props().stream().filter(p -> p.kind() == 1).mapToInt(Prop::number).average()
            .orElseThrow(ArithmeticException::new);
    }

    double brokenShare() {
        if (now.props().isEmpty()) {
            throw new ArithmeticException();
        }
        return (float) account(4) / (float) account(0);
    }

    int undo() {
        if (past.isEmpty()) {
            throw new IllegalStateException();
        }
        now = past.removeLast();
        return past.size();
    }

    int save() {
        snapshot = now;
        return now.props().size();
    }

    int restore() {
        if (snapshot == null) {
            throw new IllegalStateException();
        }
        now = snapshot;
        past.clear();
        return now.props().size();
    }
}
