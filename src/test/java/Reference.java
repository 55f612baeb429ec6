import java.util.ArrayDeque;
import java.util.ArrayList;
import java.util.Comparator;
import java.util.Deque;
import java.util.HashMap;
import java.util.List;
import java.util.Map;
import java.util.NoSuchElementException;
import java.util.regex.Matcher;
import java.util.regex.Pattern;

/** The document's promises once more, as slow and as plain as can be, to compare answers with. */
final class Reference {
    private static final String NUMBER = "[0-9][0-9]?";
    private static final String COMMAND = ("(?:comet N N N|drop N|turn N N|shine N N|day N|vac N N|rate [0-9])")
            .replace("N", NUMBER);
    private static final Pattern PROGRAM = Pattern.compile(COMMAND + "(?:;" + COMMAND + ")*");

    private static final class Body {
        int id;
        int period;
        int light;
        int next;
        int passes;

        Body copy() {
            Body body = new Body();
            body.id = id;
            body.period = period;
            body.light = light;
            body.next = next;
            body.passes = passes;
            return body;
        }
    }

    private static final class State {
        List<Body> bodies = new ArrayList<>();
        int[] dust = new int[12];
        int nextId = 0;
        int day = 0;
        int coins = 20;
        int rate = 2;
        int fallen = 0;
        int removed = 0;
        int passes = 0;
        int burnt = 0;

        State copy() {
            State state = new State();
            for (Body body : bodies) {
                state.bodies.add(body.copy());
            }
            state.dust = dust.clone();
            state.nextId = nextId;
            state.day = day;
            state.coins = coins;
            state.rate = rate;
            state.fallen = fallen;
            state.removed = removed;
            state.passes = passes;
            state.burnt = burnt;
            return state;
        }
    }

    private State now = new State();
    private State saved = null;
    private final Deque<State> past = new ArrayDeque<>();
    private String text = "";
    private String line = "";
    private int error = -1;
    private int failed = -1;

    private void remember(State before) {
        past.addLast(before);
        if (past.size() > 8) {
            past.removeFirst();
        }
    }

    private static void require(boolean holds, RuntimeException otherwise) {
        if (!holds) {
            throw otherwise;
        }
    }

    private Body body(int comet) {
        for (Body body : now.bodies) {
            if (body.id == comet) {
                return body;
            }
        }
        throw new NoSuchElementException();
    }

    private static boolean within(int number, int least, int most) {
        return least <= number && number <= most;
    }

    // Each change comes twice: as itself, and as the call that can be undone.

    private int change(String name, int a, int b, int c) {
        switch (name) {
            case "comet": {
                require(within(a, 2, 60) && within(b, 1, 60) && within(c, 1, 20), new IllegalArgumentException());
                require(now.bodies.size() < 6, new IllegalStateException());
                Body body = new Body();
                body.id = now.nextId++;
                body.period = a;
                body.next = now.day + b;
                body.light = c;
                now.bodies.add(body);
                return body.id;
            }
            case "drop": {
                Body body = body(a);
                now.coins += body.light;
                now.bodies.remove(body);
                return now.coins;
            }
            case "turn": {
                Body body = body(a);
                require(within(b, 2, 60), new IllegalArgumentException());
                int previous = body.period;
                body.period = b;
                return previous;
            }
            case "shine": {
                Body body = body(a);
                require(within(b, 1, 19), new IllegalArgumentException());
                require(body.light + b <= 20, new IllegalStateException());
                require(now.coins >= 3 * b, new UnsupportedOperationException());
                now.coins -= 3 * b;
                body.light += b;
                return body.light;
            }
            case "day": {
                require(within(a, 1, 60), new IllegalArgumentException());
                int before = now.passes;
                for (int i = 0; i < a; i++) {
                    pass();
                }
                return now.passes - before;
            }
            case "vac": {
                require(within(a, 0, 11), new IndexOutOfBoundsException());
                require(within(b, 1, 12), new IllegalArgumentException());
                int amount = 0;
                for (int i = 0; i < b; i++) {
                    amount += now.dust[(a + i) % 12];
                }
                require(now.coins + amount - now.rate * b >= 0, new IllegalStateException());
                for (int i = 0; i < b; i++) {
                    now.dust[(a + i) % 12] = 0;
                }
                now.coins += amount - now.rate * b;
                now.removed += amount;
                return amount;
            }
            default: {
                require(within(a, 0, 9), new IllegalArgumentException());
                int previous = now.rate;
                now.rate = a;
                return previous;
            }
        }
    }

    private void pass() {
        now.day++;
        for (Body body : new ArrayList<>(now.bodies)) {
            if (body.next == now.day) {
                now.dust[now.day % 12] += body.light;
                now.fallen += body.light;
                now.passes++;
                body.passes++;
                body.light--;
                body.next += body.period;
                if (body.light == 0) {
                    now.bodies.remove(body);
                    now.burnt++;
                }
            }
        }
    }

    int call(String name, int a, int b, int c) {
        State before = now.copy();
        int answer = change(name, a, b, c);
        remember(before);
        return answer;
    }

    // ---- queries

    int cometCount() {
        return now.bodies.size();
    }

    int cometAt(int position) {
        require(within(position, 0, now.bodies.size() - 1), new IndexOutOfBoundsException());
        return now.bodies.get(position).id;
    }

    boolean exists(int comet) {
        return now.bodies.stream().anyMatch(body -> body.id == comet);
    }

    int period(int comet) {
        return body(comet).period;
    }

    int brightness(int comet) {
        return body(comet).light;
    }

    int tail(int comet) {
        return 1 + body(comet).light / 5;
    }

    int nextPass(int comet) {
        return body(comet).next;
    }

    int passesOf(int comet) {
        return body(comet).passes;
    }

    int lastPass(int comet) {
        Body body = body(comet).copy();
        int last = 0;
        while (body.light > 0) {
            last = body.next;
            body.next += body.period;
            body.light--;
        }
        return last;
    }

    int cometAtRank(int rank) {
        require(within(rank, 0, now.bodies.size() - 1), new IndexOutOfBoundsException());
        List<Body> ranked = new ArrayList<>(now.bodies);
        ranked.sort(Comparator.<Body>comparingInt(body -> -body.light).thenComparingInt(body -> body.next)
                .thenComparingInt(body -> body.id));
        return ranked.get(rank).id;
    }

    int passesIn(int days) {
        require(within(days, 0, 60), new IllegalArgumentException());
        State kept = now;
        now = now.copy();
        int before = now.passes;
        for (int i = 0; i < days; i++) {
            pass();
        }
        int passed = now.passes - before;
        now = kept;
        return passed;
    }

    int nextMeeting(int one, int other) {
        Body first = body(one);
        Body second = body(other);
        require(one != other, new IllegalArgumentException());
        for (int day = now.day + 1; day <= now.day + 60 + 3600; day++) {
            if (wouldPass(first, day) && wouldPass(second, day)) {
                return day;
            }
        }
        throw new UnsupportedOperationException();
    }

    private static boolean wouldPass(Body body, int day) {
        return day >= body.next && (day - body.next) % body.period == 0;
    }

    long alignment() {
        require(!now.bodies.isEmpty(), new ArithmeticException());
        long days = 1;
        for (Body body : now.bodies) {
            long multiple = days;
            while (multiple % body.period != 0) {
                multiple += days;
            }
            days = multiple;
        }
        return days;
    }

    /** The worth times 1000 minus the number of passes, so that one number tells both. */
    private int bestPlan(int days) {
        require(within(days, 0, 60), new IllegalArgumentException());
        State kept = now;
        now = now.copy();
        List<int[]> seen = new ArrayList<>();
        for (int ahead = 1; ahead <= days; ahead++) {
            for (Body body : now.bodies) {
                int last = ahead + body.light / 5;
                if (body.next == now.day + 1 && last <= days) {
                    seen.add(new int[] {ahead, last, body.light});
                }
            }
            pass();
        }
        now = kept;
        return bestFrom(seen, 0, 0, new HashMap<>());
    }

    /** Follows or leaves one pass after the other; the passes come by the day on which they happen. */
    private static int bestFrom(List<int[]> seen, int index, int busyUpTo, Map<Integer, Integer> known) {
        if (index == seen.size()) {
            return 0;
        }
        Integer before = known.get(index * 100 + busyUpTo);
        if (before != null) {
            return before;
        }
        int[] pass = seen.get(index);
        int best = bestFrom(seen, index + 1, busyUpTo, known);
        if (pass[0] > busyUpTo) {
            best = Math.max(best, pass[2] * 1000 - 1 + bestFrom(seen, index + 1, pass[1], known));
        }
        known.put(index * 100 + busyUpTo, best);
        return best;
    }

    int bestWorth(int days) {
        return (bestPlan(days) + 999) / 1000;
    }

    int fewestPasses(int days) {
        return bestWorth(days) * 1000 - bestPlan(days);
    }

    int dust(int place) {
        require(within(place, 0, 11), new IndexOutOfBoundsException());
        return now.dust[place];
    }

    int gain(int start, int places) {
        require(within(start, 0, 11), new IndexOutOfBoundsException());
        require(within(places, 1, 12), new IllegalArgumentException());
        int gained = 0;
        for (int place = start; place < start + places; place++) {
            gained += now.dust[place % 12] - now.rate;
        }
        return gained;
    }

    /** The gain, the start and the number of places of the best arc. */
    int[] bestArc() {
        List<int[]> arcs = new ArrayList<>();
        for (int start = 0; start < 12; start++) {
            for (int places = 1; places <= 12; places++) {
                arcs.add(new int[] {gain(start, places), start, places});
            }
        }
        arcs.sort(Comparator.<int[]>comparingInt(arc -> -arc[0]).thenComparingInt(arc -> arc[2])
                .thenComparingInt(arc -> arc[1]));
        return arcs.get(0);
    }

    int day() {
        return now.day;
    }

    int coins() {
        return now.coins;
    }

    int rate() {
        return now.rate;
    }

    int dustTotal() {
        return java.util.Arrays.stream(now.dust).sum();
    }

    int dustByAccounts() {
        return now.fallen - now.removed;
    }

    int passTotal() {
        return now.passes;
    }

    int burntTotal() {
        return now.burnt;
    }

    double meanBrightness() {
        require(!now.bodies.isEmpty(), new ArithmeticException());
        return (double) now.bodies.stream().mapToInt(body -> body.light).sum() / (double) now.bodies.size();
    }

    float dustyShare() {
        return (float) java.util.Arrays.stream(now.dust).filter(amount -> amount > 0).count() / 12f;
    }

    // ---- programs and output

    int append(char character) {
        require(text.length() < 60, new IllegalStateException());
        text += character;
        return text.length();
    }

    int run() {
        String program = text;
        text = "";
        if (!PROGRAM.matcher(program).matches()) {
            error = errorIn(program);
            throw new IllegalArgumentException();
        }
        State before = now.copy();
        String[] commands = program.split(";");
        for (int i = 0; i < commands.length; i++) {
            String[] words = (commands[i] + " 0 0").split(" ");
            try {
                change(words[0], Integer.parseInt(words[1]), Integer.parseInt(words[2]), Integer.parseInt(words[3]));
            } catch (RuntimeException e) {
                now = before;
                failed = i;
                throw new UnsupportedOperationException();
            }
        }
        remember(before);
        return commands.length;
    }

    /** A beginning can go on to a program if it is one, or if the pattern would have read more. */
    private static int errorIn(String program) {
        for (int end = 1; end <= program.length(); end++) {
            Matcher matcher = PROGRAM.matcher(program.substring(0, end));
            if (!matcher.matches() && !matcher.hitEnd()) {
                return end - 1;
            }
        }
        return program.length();
    }

    int errorPosition() {
        require(error >= 0, new NoSuchElementException());
        return error;
    }

    int failedCommand() {
        require(failed >= 0, new NoSuchElementException());
        return failed;
    }

    int writeComet(int comet) {
        Body body = body(comet);
        line = body.id + "*" + body.light + "/" + body.period + "@" + body.next;
        return line.length();
    }

    int writeRing() {
        StringBuilder ring = new StringBuilder();
        for (int amount : now.dust) {
            ring.append(ring.length() == 0 ? "" : ",").append(amount);
        }
        line = ring.toString();
        return line.length();
    }

    char outputAt(int index) {
        require(within(index, 0, line.length() - 1), new IndexOutOfBoundsException());
        return line.charAt(index);
    }

    // ---- undo and snapshot

    int undo() {
        require(!past.isEmpty(), new IllegalStateException());
        now = past.removeLast();
        return past.size();
    }

    int save() {
        saved = now.copy();
        return 0;
    }

    int restore() {
        require(saved != null, new IllegalStateException());
        now = saved.copy();
        past.clear();
        return 0;
    }
}
