import java.util.ArrayList;
import java.util.Arrays;
import java.util.HashMap;
import java.util.List;
import java.util.Map;
import java.util.NoSuchElementException;

/**
 * The document once more, as plainly as it can be written: every choice is tried, every state is copied whole.
 * It has nothing in common with the class but the document, so that RandomTest can hold the two against each other.
 */
final class Model {
    private static final class Fault extends RuntimeException {
        private static final long serialVersionUID = 1L;
        final int kind;
        final int place;

        Fault(int kind, int place) {
            this.kind = kind;
            this.place = place;
        }
    }

    private record Token(char type, int start, String text) { }

    private interface Expr {
        int value(Map<String, Integer> of);
    }

    private record Step(String word, int a, int x, List<Step> body) { }

    private static final class State {
        int day;
        int mile;
        int hours;
        int frost;
        int[] cell = new int[8];
        int[] left = new int[8];
        List<int[]> notes = new ArrayList<>();

        State(int hours) {
            this.hours = hours;
            Arrays.fill(cell, -1);
            Arrays.fill(left, -1);
        }

        State copy() {
            State s = new State(hours);
            s.day = day;
            s.mile = mile;
            s.frost = frost;
            s.cell = cell.clone();
            s.left = left.clone();
            s.notes = new ArrayList<>(notes);
            return s;
        }

        int in(int x) {
            for (int w = 0; w < 8; w++) {
                if (x >= 0 && cell[w] == x) {
                    return w;
                }
            }
            return -1;
        }
    }

    private record Image(State state, List<State> undo) { }

    private static final class Told {
        final List<int[]> wagons = new ArrayList<>();
        final List<int[]> ties = new ArrayList<>();
        final List<int[]> needs = new ArrayList<>();
        final int[] ground = new int[12];
        final List<Integer> gangs = new ArrayList<>();
        final List<List<Integer>> voters = new ArrayList<>();
        final List<Integer> wells = new ArrayList<>();
        int hours = 8;
        int speed = 5;
        int frost = 0;

        int tie(int a, int b) {
            int sum = 0;
            for (int[] t : ties) {
                if (t[0] == a && t[1] == b || t[0] == b && t[1] == a) {
                    sum += t[2];
                }
            }
            return sum;
        }

        int needs(int a) {
            int bits = 0;
            for (int[] n : needs) {
                if (n[0] == a) {
                    bits |= 1 << n[1];
                }
            }
            return bits;
        }
    }

    private final List<Integer> tape = new ArrayList<>();
    private Told t = new Told();
    private Expr law = usual();
    private Map<Integer, Integer> book = new HashMap<>();
    private State s = new State(8);
    private List<State> undo = new ArrayList<>();
    private final List<Image> images = new ArrayList<>();
    private int fault = -1;
    private int refused = 0;
    private final int[] status = new int[2];
    private List<Token> tokens;
    private int at;

    private static Expr usual() {
        return of -> of.get("hours") + of.get("ground") / 3;
    }

    // ---- texts

    int feed(int... numbers) {
        if (tape.size() + 20 > 600) {
            return -1;
        }
        for (int n : numbers) {
            for (int b = 3; b >= 0; b--) {
                tape.add(n >> 8 * b & 255);
            }
        }
        return tape.size();
    }

    private void lex(int n) {
        tokens = new ArrayList<>();
        at = 0;
        int i = 0;
        while (i < n) {
            int b = tape.get(i);
            int start = i;
            if (b == 32) {
                i++;
            } else if (b >= '0' && b <= '9') {
                while (i < n && tape.get(i) >= '0' && tape.get(i) <= '9') {
                    i++;
                }
                tokens.add(new Token('n', start, text(start, i)));
            } else if (b >= 'a' && b <= 'z') {
                while (i < n && tape.get(i) >= 'a' && tape.get(i) <= 'z') {
                    i++;
                }
                tokens.add(new Token('w', start, text(start, i)));
            } else {
                i++;
                tokens.add(new Token('s', start, text(start, i)));
            }
        }
        tokens.add(new Token('e', n, ""));
        tape.clear();
        fault = -1;
    }

    private String text(int from, int to) {
        StringBuilder b = new StringBuilder();
        for (int i = from; i < to; i++) {
            b.append((char) (int) tape.get(i));
        }
        return b.toString();
    }

    private Token now() {
        return tokens.get(at);
    }

    private int number(int least, int most) {
        Token k = now();
        if (k.type != 'n') {
            throw new Fault(1, k.start);
        }
        java.math.BigInteger v = new java.math.BigInteger(k.text);
        if (v.compareTo(java.math.BigInteger.valueOf(least)) < 0
                || v.compareTo(java.math.BigInteger.valueOf(most)) > 0) {
            throw new Fault(2, k.start);
        }
        at++;
        return v.intValue();
    }

    private int back() {
        return tokens.get(at - 1).start;
    }

    private boolean isSign(String text) {
        return now().type == 's' && now().text.equals(text);
    }

    private void sign(String text) {
        if (!isSign(text)) {
            throw new Fault(1, now().start);
        }
        at++;
    }

    private void bound(int n, int most) {
        bad(n < 0 || n > most || n > tape.size());
    }

    int train(int n) {
        bound(n, 600);
        lex(n);
        try {
            Told told = readTrain();
            t = told;
        } catch (Fault f) {
            fault = f.place;
            return f.kind - 10;
        }
        law = usual();
        book = new HashMap<>();
        images.clear();
        undo = new ArrayList<>();
        s = new State(t.hours);
        refused = 0;
        return t.wagons.size();
    }

    private Told readTrain() {
        Told told = new Told();
        List<String> words = List.of("wagon", "tie", "needs", "ground", "hours", "speed", "gang", "voter", "well",
            "frost");
        for (int clauses = 0; now().type != 'e'; clauses++) {
            Token k = now();
            if (k.type != 'w' || !words.contains(k.text)) {
                throw new Fault(1, k.start);
            }
            boolean full = k.text.equals("wagon") && told.wagons.size() == 8
                || k.text.equals("gang") && told.gangs.size() == 4
                || k.text.equals("voter") && told.voters.size() == 9
                || k.text.equals("well") && told.wells.size() == 8;
            if (clauses == 60 || full) {
                throw new Fault(3, k.start);
            }
            at++;
            int last = told.wagons.size() - 1;
            switch (k.text) {
                case "wagon" -> told.wagons.add(new int[] {number(1, 6), number(1, 9), number(0, 5)});
                case "tie" -> {
                    int a = number(0, last);
                    int b = number(0, last);
                    if (a == b) {
                        throw new Fault(2, back());
                    }
                    told.ties.add(new int[] {a, b, number(1, 9)});
                }
                case "needs" -> {
                    int a = number(0, last);
                    told.needs.add(new int[] {a, number(0, a - 1)});
                }
                case "ground" -> {
                    int x = number(0, 11);
                    told.ground[x] = number(0, 9);
                }
                case "hours" -> told.hours = number(1, 24);
                case "speed" -> told.speed = number(1, 20);
                case "gang" -> told.gangs.add(number(1, 3));
                case "voter" -> {
                    List<Integer> order = new ArrayList<>();
                    for (int i = 0; i < 3; i++) {
                        int plan = number(0, 2);
                        if (order.contains(plan)) {
                            throw new Fault(2, back());
                        }
                        order.add(plan);
                    }
                    told.voters.add(order);
                }
                case "well" -> told.wells.add(number(1, 200));
                default -> told.frost = number(0, 16);
            }
            sign(";");
        }
        return told;
    }

    int law(int n) {
        bound(n, 150);
        lex(n);
        try {
            Expr e = sum(0);
            if (now().type != 'e') {
                throw new Fault(1, now().start);
            }
            law = e;
            return 1;
        } catch (Fault f) {
            fault = f.place;
            return f.kind - 10;
        }
    }

    private Expr sum(int open) {
        Expr left = product(open);
        while (isSign("+") || isSign("-")) {
            boolean plus = isSign("+");
            at++;
            Expr l = left;
            Expr r = product(open);
            left = plus ? of -> l.value(of) + r.value(of) : of -> l.value(of) - r.value(of);
        }
        return left;
    }

    private Expr product(int open) {
        Expr left = part(open);
        while (isSign("*") || isSign("/")) {
            boolean times = isSign("*");
            at++;
            Expr l = left;
            Expr r = part(open);
            left = times ? of -> l.value(of) * r.value(of)
                : of -> r.value(of) == 0 ? 0 : (int) ((long) l.value(of) / r.value(of));
        }
        return left;
    }

    private Expr part(int open) {
        Token k = now();
        if (k.type == 'n') {
            int v = number(0, 999);
            return of -> v;
        }
        boolean two = k.type == 'w' && (k.text.equals("least") || k.text.equals("most"));
        if (isSign("(") || two) {
            if (open == 6) {
                throw new Fault(3, k.start);
            }
            at++;
            if (!two) {
                Expr e = sum(open + 1);
                sign(")");
                return e;
            }
            sign("[");
            Expr l = sum(open + 1);
            sign(",");
            Expr r = sum(open + 1);
            sign("]");
            boolean least = k.text.equals("least");
            return of -> {
                int a = l.value(of);
                int b = r.value(of);
                return least == a < b ? a : b;
            };
        }
        if (k.type == 'w' && List.of("hours", "weight", "kind", "cell", "ground", "day", "near", "frost")
                .contains(k.text)) {
            at++;
            return of -> of.get(k.text);
        }
        throw new Fault(1, k.start);
    }

    int work(int n) {
        bound(n, 150);
        lex(n);
        if (undo.size() == 16) {
            return -20;
        }
        List<Step> steps;
        try {
            steps = steps(0);
            if (now().type != 'e') {
                throw new Fault(1, now().start);
            }
        } catch (Fault f) {
            fault = f.place;
            return f.kind - 10;
        }
        undo.add(s.copy());
        int[] counts = new int[3];
        run(steps, counts);
        refused = counts[2];
        return counts[1];
    }

    private List<Step> steps(int open) {
        List<Step> steps = new ArrayList<>();
        while (now().type != 'e' && !(open > 0 && isSign("]"))) {
            Token k = now();
            int last = t.wagons.size() - 1;
            if (k.type != 'w') {
                throw new Fault(1, k.start);
            }
            at++;
            switch (k.text) {
                case "lay" -> steps.add(new Step("lay", number(0, last), number(0, 11), null));
                case "take", "fetch" -> steps.add(new Step(k.text, number(0, last), 0, null));
                case "day" -> steps.add(new Step("day", 0, 0, null));
                case "again" -> {
                    if (open == 6) {
                        throw new Fault(3, k.start);
                    }
                    int many = number(0, 20);
                    sign("[");
                    List<Step> body = steps(open + 1);
                    sign("]");
                    steps.add(new Step("again", many, 0, body));
                }
                default -> throw new Fault(1, k.start);
            }
            sign(";");
        }
        return steps;
    }

    /** Counts: begun, done, refused. False: no more may be begun. */
    private boolean run(List<Step> steps, int[] counts) {
        for (Step step : steps) {
            if (counts[0] == 200) {
                return false;
            }
            counts[0]++;
            if (step.word.equals("again")) {
                for (int i = 0; i < step.a; i++) {
                    if (!run(step.body, counts)) {
                        return false;
                    }
                }
            } else {
                counts[doStep(s, step.word, step.a, step.x) ? 1 : 2]++;
            }
        }
        return true;
    }

    private boolean doStep(State s, String word, int a, int x) {
        int need;
        switch (word) {
            case "lay":
                if (!canLay(s, a, x)) {
                    return false;
                }
                s.hours -= lasts(s, a, x);
                s.cell[a] = x;
                return true;
            case "take":
                need = Math.max(1, t.wagons.get(a)[0] / 2);
                if (s.cell[a] < 0 || need > s.hours) {
                    return false;
                }
                for (int w = 0; w < t.wagons.size(); w++) {
                    if (s.cell[w] >= 0 && (t.needs(w) >> a & 1) == 1) {
                        return false;
                    }
                }
                s.hours -= need;
                s.cell[a] = -1;
                return true;
            case "fetch":
                if (s.left[a] < 0) {
                    return false;
                }
                need = 1;
                for (int m = 0; m < s.mile - s.left[a]; m += 10) {
                    need++;
                }
                if (need > s.hours) {
                    return false;
                }
                s.hours -= need;
                s.left[a] = -1;
                return true;
            default:
                if (s.day == 200) {
                    return false;
                }
                int[] town = new int[12];
                for (int c = 0; c < 12; c++) {
                    town[c] = s.in(c) < 0 ? 6 : t.wagons.get(s.in(c))[2];
                }
                if (s.day < 12) {
                    s.notes.add(town);
                }
                for (int w = 0; w < 8; w++) {
                    if (s.cell[w] >= 0) {
                        s.left[w] = s.mile;
                        s.cell[w] = -1;
                    }
                }
                s.day++;
                s.mile += t.speed;
                s.hours = t.hours;
                return true;
        }
    }

    private boolean canLay(State s, int a, int x) {
        if (s.cell[a] >= 0 || s.left[a] >= 0 || s.in(x) >= 0) {
            return false;
        }
        for (int w = 0; w < t.wagons.size(); w++) {
            if ((t.needs(a) >> w & 1) == 1 && s.cell[w] < 0) {
                return false;
            }
        }
        return lasts(s, a, x) <= s.hours;
    }

    private int lasts(State s, int a, int x) {
        int near = (s.in(x - 1) >= 0 ? 1 : 0) + (s.in(x + 1) >= 0 ? 1 : 0);
        int[] w = t.wagons.get(a);
        return lawFor(w[0], w[1], w[2], x, t.ground[x], s.day, near, s.frost);
    }

    private int lawFor(int... v) {
        Map<String, Integer> of = new HashMap<>();
        String[] names = {"hours", "weight", "kind", "cell", "ground", "day", "near", "frost"};
        for (int i = 0; i < names.length; i++) {
            of.put(names[i], v[i]);
        }
        int h = law.value(of);
        return h < 1 ? 1 : h > 24 ? 24 : h;
    }

    int book(int n) {
        bound(n, 60);
        lex(n);
        Map<Integer, Integer> read = new HashMap<>();
        try {
            while (now().type != 'e') {
                int x = number(0, 11);
                if (read.containsKey(x)) {
                    throw new Fault(2, back());
                }
                if (read.size() == 8) {
                    throw new Fault(3, back());
                }
                read.put(x, number(0, 6));
                sign(";");
            }
        } catch (Fault f) {
            fault = f.place;
            return f.kind - 10;
        }
        book = read;
        return book.size();
    }

    int fault() {
        return fault;
    }

    int undo() {
        if (undo.isEmpty()) {
            return -1;
        }
        s = undo.remove(undo.size() - 1).copy();
        refused = 0;
        return undo.size();
    }

    // ---- refusals

    private void bad(boolean is) {
        if (is) {
            status[1]++;
            throw new IllegalArgumentException();
        }
    }

    private void range(int v, int least, int most) {
        bad(v < least || v > most);
    }

    private void element(int w) {
        if (w < 0 || w >= t.wagons.size()) {
            status[0]++;
            throw new NoSuchElementException();
        }
    }

    private void bits(int wagons, int most) {
        bad(wagons < 0 || wagons >= 1 << t.wagons.size() || Integer.bitCount(wagons) > most);
    }

    // ---- how all is now

    int told(int what) {
        range(what, 0, 9);
        int laid = 0;
        int left = 0;
        for (int w = 0; w < 8; w++) {
            laid += s.cell[w] >= 0 ? 1 : 0;
            left += s.left[w] >= 0 ? 1 : 0;
        }
        return new int[] {t.wagons.size(), t.gangs.size(), t.voters.size(), s.day, s.mile, s.hours, laid, left,
            book.size(), refused}[what];
    }

    int wagon(int w, int what) {
        element(w);
        range(what, 0, 6);
        int place = s.cell[w] >= 0 ? 1 : s.left[w] >= 0 ? 2 : 0;
        int[] told = t.wagons.get(w);
        return new int[] {told[0], told[1], told[2], place, s.cell[w], s.left[w], t.needs(w)}[what];
    }

    int stands(int x) {
        range(x, 0, 11);
        return s.in(x);
    }

    int ground(int x) {
        range(x, 0, 11);
        return t.ground[x];
    }

    int tie(int a, int b) {
        element(a);
        element(b);
        return t.tie(a, b);
    }

    int lasts(int w, int x) {
        element(w);
        range(x, 0, 11);
        return lasts(s, w, x);
    }

    int would(int h, int w, int k, int g, int near, int frost) {
        bad(h < 1 || h > 6 || w < 1 || w > 9 || k < 0 || k > 5 || g < 0 || g > 9 || near < 0 || near > 2
            || frost < 0 || frost > 1);
        return lawFor(h, w, k, 0, g, 0, near, frost);
    }

    boolean can(int w, int x) {
        element(w);
        range(x, 0, 11);
        return canLay(s, w, x);
    }

    private int cost(int[] cell) {
        int sum = 0;
        for (int a = 0; a < t.wagons.size(); a++) {
            if (cell[a] >= 0) {
                sum += t.ground[cell[a]];
                for (int b = 0; b < a; b++) {
                    if (cell[b] >= 0) {
                        sum += t.tie(a, b) * Math.abs(cell[a] - cell[b]);
                    }
                }
            }
        }
        return sum;
    }

    int cost() {
        return cost(s.cell);
    }

    int ties(int w) {
        element(w);
        int sum = 0;
        for (int b = 0; b < t.wagons.size() && s.cell[w] >= 0; b++) {
            if (s.cell[b] >= 0) {
                sum += t.tie(w, b) * Math.abs(s.cell[w] - s.cell[b]);
            }
        }
        return sum;
    }

    // ---- what is best

    private int[] bestCells;
    private int bestCost;

    private void tryCells(int wagons, int w, int[] cell, int soFar) {
        if (w == t.wagons.size()) {
            if (soFar < bestCost) {
                bestCost = soFar;
                bestCells = cell.clone();
            }
            return;
        }
        if ((wagons >> w & 1) == 0) {
            tryCells(wagons, w + 1, cell, soFar);
            return;
        }
        for (int x = 0; x < 12; x++) {
            boolean free = true;
            int more = t.ground[x];
            for (int b = 0; b < w; b++) {
                free &= cell[b] != x;
                more += cell[b] < 0 ? 0 : t.tie(w, b) * Math.abs(x - cell[b]);
            }
            if (free) {
                cell[w] = x;
                tryCells(wagons, w + 1, cell, soFar + more);
                cell[w] = -1;
            }
        }
    }

    private void findBest(int wagons) {
        bestCost = Integer.MAX_VALUE;
        int[] cell = new int[8];
        Arrays.fill(cell, -1);
        tryCells(wagons, 0, cell, 0);
    }

    int best(int wagons) {
        bits(wagons, 5);
        findBest(wagons);
        return bestCost;
    }

    int bestAt(int wagons, int w) {
        element(w);
        bits(wagons, 5);
        findBest(wagons);
        return bestCells[w];
    }

    int rather(int w) {
        element(w);
        if (s.cell[w] < 0) {
            return -1;
        }
        int least = cost();
        int chosen = -1;
        for (int x = 0; x < 12; x++) {
            if (s.in(x) < 0) {
                int[] cell = s.cell.clone();
                cell[w] = x;
                if (cost(cell) < least) {
                    least = cost(cell);
                    chosen = x;
                }
            }
        }
        return chosen;
    }

    private int[] row;
    private int rowSum;

    private void tryRows(int[] places, int n, int used, int sum) {
        int all = t.wagons.size();
        if (n == all) {
            if (sum < rowSum) {
                rowSum = sum;
                row = places.clone();
            }
            return;
        }
        for (int w = 0; w < all; w++) {
            if ((used >> w & 1) == 0 && (t.needs(w) & ~used) == 0) {
                places[n] = w;
                tryRows(places, n + 1, used | 1 << w, sum + (n + 1) * t.wagons.get(w)[1]);
            }
        }
    }

    private void findRow() {
        rowSum = Integer.MAX_VALUE;
        tryRows(new int[8], 0, 0, 0);
    }

    int load() {
        findRow();
        return rowSum;
    }

    int loaded(int place) {
        range(place, 0, t.wagons.size() - 1);
        findRow();
        return row[place];
    }

    int shunts() {
        findRow();
        int many = 0;
        for (int i = 0; i < t.wagons.size(); i++) {
            for (int j = 0; j < i; j++) {
                many += row[j] > row[i] ? 1 : 0;
            }
        }
        return many;
    }

    private int[] gangOf;
    private int time;

    private void tryGangs(int wagons, int w, int[] gang) {
        if (w == t.wagons.size()) {
            int slowest = 0;
            for (int g = 0; g < t.gangs.size(); g++) {
                int sum = 0;
                for (int i = 0; i < w; i++) {
                    sum += gang[i] == g ? t.wagons.get(i)[0] : 0;
                }
                int speed = t.gangs.get(g);
                slowest = Math.max(slowest, sum / speed + (sum % speed == 0 ? 0 : 1));
            }
            if (slowest < time) {
                time = slowest;
                gangOf = gang.clone();
            }
            return;
        }
        if ((wagons >> w & 1) == 0) {
            tryGangs(wagons, w + 1, gang);
            return;
        }
        for (int g = 0; g < t.gangs.size(); g++) {
            gang[w] = g;
            tryGangs(wagons, w + 1, gang);
            gang[w] = -1;
        }
    }

    private void findGangs(int wagons) {
        time = Integer.MAX_VALUE;
        int[] gang = new int[8];
        Arrays.fill(gang, -1);
        gangOf = gang.clone();
        tryGangs(wagons, 0, gang);
        if (time == Integer.MAX_VALUE) {
            time = -1;
        }
    }

    int crew(int wagons) {
        bits(wagons, 8);
        findGangs(wagons);
        return time;
    }

    int crewOf(int wagons, int w) {
        element(w);
        bits(wagons, 8);
        findGangs(wagons);
        return gangOf[w];
    }

    // ---- the line

    int behind(int w) {
        element(w);
        return s.left[w] < 0 ? 0 : s.mile - s.left[w];
    }

    int overtakes(int v, int d, int r) {
        bad(v < 0 || v > 60 || d < 0 || d > 30 || r < 0 || r > 9);
        if (d == 0) {
            return 0;
        }
        int walker = 0;
        int train = d * t.speed;
        for (int day = 1; day <= 400; day++) {
            walker += v;
            if (r == 0 || day % r != 0) {
                train += t.speed;
            }
            if (walker >= train) {
                return day;
            }
        }
        return -1;
    }

    int way(int m, int k) {
        range(m, 0, 250);
        range(k, 1, 40);
        return fewestDays(m, k);
    }

    /** Day by day: the most water with which one can be at each mile. */
    private int fewestDays(int m, int k) {
        int[] water = new int[m + 1];
        Arrays.fill(water, -1);
        water[0] = k;
        for (int day = 0; day <= 300; day++) {
            if (water[m] >= 0) {
                return day;
            }
            int[] next = new int[m + 1];
            Arrays.fill(next, -1);
            for (int mile = 0; mile <= m; mile++) {
                for (int go = 0; go <= t.speed && mile + go <= m && water[mile] > 0; go++) {
                    int rest = t.wells.contains(mile + go) ? k : water[mile] - 1;
                    next[mile + go] = Math.max(next[mile + go], rest);
                }
            }
            water = next;
        }
        return -1;
    }

    int water(int m) {
        range(m, 0, 250);
        for (int k = 1; k <= 40; k++) {
            if (fewestDays(m, k) >= 0) {
                return k;
            }
        }
        return -1;
    }

    // ---- votes

    private int likers(int a, int b) {
        int many = 0;
        for (List<Integer> v : t.voters) {
            many += v.indexOf(a) < v.indexOf(b) ? 1 : 0;
        }
        return many;
    }

    int prefer(int a, int b) {
        bad(a < 0 || a > 2 || b < 0 || b > 2 || a == b);
        return likers(a, b);
    }

    private int vote(int a, int b) {
        return likers(b, a) > likers(a, b) ? b : a;
    }

    private int agenda(int a, int b, int how) {
        int c = 3 - a - b;
        if (how == 0) {
            return vote(vote(a, b), c);
        }
        int byA = vote(a, c);
        int byB = vote(b, c);
        int forA = 0;
        int forB = 0;
        for (List<Integer> v : t.voters) {
            forA += v.indexOf(byA) < v.indexOf(byB) ? 1 : 0;
            forB += v.indexOf(byB) < v.indexOf(byA) ? 1 : 0;
        }
        return vote(forB > forA ? b : a, c);
    }

    int wins(int a, int b, int how) {
        bad(a < 0 || a > 2 || b < 0 || b > 2 || a == b || how < 0 || how > 1);
        return agenda(a, b, how);
    }

    int agendas(int plan, int how) {
        bad(plan < 0 || plan > 2 || how < 0 || how > 1);
        int many = 0;
        int[][] all = {{0, 1}, {0, 2}, {1, 0}, {1, 2}, {2, 0}, {2, 1}};
        for (int[] ab : all) {
            many += agenda(ab[0], ab[1], how) == plan ? 1 : 0;
        }
        return many;
    }

    int beats() {
        for (int p = 0; p < 3; p++) {
            int a = (p + 1) % 3;
            int b = (p + 2) % 3;
            if (likers(p, a) > likers(a, p) && likers(p, b) > likers(b, p)) {
                return p;
            }
        }
        return -1;
    }

    // ---- days

    private boolean fitsOn(int d, Map<Integer, Integer> lines) {
        for (int x : lines.keySet()) {
            if (s.notes.get(d)[x] != lines.get(x)) {
                return false;
            }
        }
        return true;
    }

    int fits() {
        int bits = 0;
        for (int d = 0; d < s.notes.size(); d++) {
            bits |= fitsOn(d, book) ? 1 << d : 0;
        }
        return bits;
    }

    int look(int what) {
        range(what, 0, 1);
        int[] found = {-1, Integer.MAX_VALUE};
        for (int x = 0; x < 12; x++) {
            if (!book.containsKey(x)) {
                int worst = 0;
                for (int k = 0; k <= 6; k++) {
                    Map<Integer, Integer> lines = new HashMap<>(book);
                    lines.put(x, k);
                    int left = 0;
                    for (int d = 0; d < s.notes.size(); d++) {
                        left += fitsOn(d, lines) ? 1 : 0;
                    }
                    worst = Math.max(worst, left);
                }
                if (worst < found[1]) {
                    found = new int[] {x, worst};
                }
            }
        }
        return found[what];
    }

    int stood(int d, int x) {
        range(d, 0, 11);
        range(x, 0, 11);
        return d < s.notes.size() ? s.notes.get(d)[x] : -1;
    }

    // ---- frost

    private static long terms(java.math.BigInteger above, java.math.BigInteger below, int part) {
        java.math.BigInteger g = above.gcd(below);
        return (part == 0 ? above : below).divide(g).longValueExact();
    }

    long mild(int n, int part) {
        range(n, 0, 8);
        range(part, 0, 1);
        java.math.BigInteger p = java.math.BigInteger.valueOf(16 - t.frost);
        return terms(p.pow(n), java.math.BigInteger.valueOf(16).pow(n), part);
    }

    /** The mean, by the day of the first frost. */
    long ahead(int n, int part) {
        range(n, 0, 7);
        range(part, 0, 1);
        java.math.BigInteger q = java.math.BigInteger.valueOf(t.frost);
        java.math.BigInteger p = java.math.BigInteger.valueOf(16 - t.frost);
        java.math.BigInteger all = java.math.BigInteger.valueOf(16);
        java.math.BigInteger sum = p.pow(n).multiply(java.math.BigInteger.valueOf(n));
        for (int d = 0; d < n; d++) {
            sum = sum.add(p.pow(d).multiply(q).multiply(all.pow(n - d - 1))
                .multiply(java.math.BigInteger.valueOf(d)));
        }
        return terms(sum, all.pow(n), part);
    }

    // ---- seasons

    private State end;
    private int[] sums;

    private void play(int seed, int days) {
        end = s.copy();
        sums = new int[4];
        long draw = seed & 0xffffffffL;
        for (int d = 0; d < days; d++) {
            draw = (draw * 1103515245L + 12345L) & 0xffffffffL;
            long bits = draw / 65536 % 32768;
            end.frost = bits % 16 < t.frost ? 1 : 0;
            sums[2] += end.frost;
            for (int w = 0; w < t.wagons.size(); w++) {
                boolean laid = end.cell[w] >= 0;
                for (int x = 0; x < 12 && !laid; x++) {
                    if (doStep(end, "lay", w, x)) {
                        laid = true;
                        sums[1]++;
                    }
                }
            }
            for (int w = t.wagons.size() - 1; w >= 0; w--) {
                doStep(end, "take", w, 0);
            }
            sums[3] += end.hours;
            doStep(end, "day", 0, 0);
        }
        for (int w = 0; w < 8; w++) {
            sums[0] += end.left[w] >= 0 ? 1 : 0;
        }
    }

    int season(int seed, int days, int what) {
        range(days, 1, 40);
        range(what, 0, 3);
        play(seed, days);
        return sums[what];
    }

    int span(int seed, int many, int days, int what, int w) {
        bad(many < 1 || many > 20 || days < 1 || days > 40 || what < 0 || what > 2 || w < 0
            || w >= t.wagons.size());
        int fewest = 99;
        int most = 0;
        int not = 0;
        for (int i = 0; i < many; i++) {
            play(seed + i, days);
            fewest = Math.min(fewest, sums[0]);
            most = Math.max(most, sums[0]);
            not += end.left[w] < 0 ? 1 : 0;
        }
        return new int[] {fewest, most, not}[what];
    }

    // ---- images

    int image() {
        if (images.size() == 3) {
            return -1;
        }
        images.add(new Image(s.copy(), new ArrayList<>(undo)));
        return images.size();
    }

    int restore() {
        if (images.isEmpty()) {
            return -1;
        }
        Image i = images.remove(images.size() - 1);
        s = i.state;
        undo = i.undo;
        refused = 0;
        return images.size();
    }

    int status(int what) {
        return what == 0 || what == 1 ? status[what] : -1;
    }

    int count(int what) {
        return what == 0 ? images.size() : what == 1 ? tape.size() : what == 2 ? undo.size() : -1;
    }
}
