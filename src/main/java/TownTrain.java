import java.util.Arrays;
import java.util.NoSuchElementException;

/** A train that lays its own town; the document's promises are named by number at each call of the face. */
public final class TownTrain {
    public static final int NONE = -1;

    private static final int CELLS = 12;
    private static final int MOST_WAGONS = 8;
    private static final int MOST_GANGS = 4;
    private static final int MOST_VOTERS = 9;
    private static final int MOST_WELLS = 8;
    private static final int PLANS = 3;
    private static final int NOTHING = 6;
    private static final int NOTED_DAYS = 12;
    private static final int FROST_PARTS = 16;
    private static final int MOST_BEST = 5;

    private static final int MOST_TAPE = 600;
    private static final int MOST_TEXT = 150;
    private static final int MOST_BOOK = 60;
    private static final int MOST_OPEN = 6;
    private static final int MOST_WORKS = 16;
    private static final int MOST_IMAGES = 3;
    private static final int TOO_MANY_WORKS = -20;

    private static final int MISPLACED = 1;
    private static final int NO_SUCH_NUMBER = 2;
    private static final int TOO_MANY = 3;

    private final Tape tape = new Tape();
    private final Law rule = new Law();
    private final Book found = new Book();
    private final Steps steps = new Steps();
    private final BestTown bestTown = new BestTown();
    private final Loading loading = new Loading();
    private final Crews crews = new Crews();
    private final Season played = new Season();
    private final Town[] images = new Town[MOST_IMAGES];
    private Train now = new Train();
    private Train draft = new Train();
    private Town town = new Town();
    private int imageCount;
    private int refusedSteps;
    private int refusedElements;
    private int refusedArguments;

    /** Promise 1. */
    public TownTrain() {
        town.hours = now.dayHours;
    }

    /** Promise 2. */
    public int feed(int a, int b, int c, int d, int e) {
        if (tape.size + 20 > MOST_TAPE) {
            return NONE;
        }
        tape.put(a);
        tape.put(b);
        tape.put(c);
        tape.put(d);
        tape.put(e);
        return tape.size;
    }

    /** Promise 3. */
    public int train(int n) throws IllegalArgumentException {
        openText(n, MOST_TAPE);
        if (!draft.read(tape)) {
            return tape.faultAnswer();
        }
        Train old = now;
        now = draft;
        draft = old;
        rule.forget();
        found.forget();
        bestTown.forget();
        loading.forget();
        crews.forget();
        forgetImages();
        refusedSteps = 0;
        town = new Town();
        town.hours = now.dayHours;
        return now.wagons;
    }

    /** Promise 4. */
    public int law(int n) throws IllegalArgumentException {
        openText(n, MOST_TEXT);
        return rule.read(tape) ? 1 : tape.faultAnswer();
    }

    /** Promise 5. */
    public int work(int n) throws IllegalArgumentException {
        openText(n, MOST_TEXT);
        if (town.works >= MOST_WORKS) {
            return TOO_MANY_WORKS;
        }
        if (!steps.read(tape, now.wagons)) {
            return tape.faultAnswer();
        }
        // a town is never changed once its work is done, so undo and images may share it
        Town next = new Town();
        next.copy(town);
        next.previous = town;
        next.works = town.works + 1;
        steps.run(next, now, rule);
        town = next;
        refusedSteps = steps.refused;
        return steps.done;
    }

    /** Promise 6. */
    public int book(int n) throws IllegalArgumentException {
        openText(n, MOST_BOOK);
        return found.read(tape) ? found.lines : tape.faultAnswer();
    }

    /** Promise 7. */
    public int fault() {
        return tape.faultPlace;
    }

    /** Promise 8. */
    public int undo() {
        if (town.previous == null) {
            return NONE;
        }
        town = town.previous;
        refusedSteps = 0;
        return town.works;
    }

    /** Promise 9. */
    public int told(int what) throws IllegalArgumentException {
        needRange(what, 0, 9);
        switch (what) {
            case 0: return now.wagons;
            case 1: return now.gangs;
            case 2: return now.voters;
            case 3: return town.day;
            case 4: return town.mile;
            case 5: return town.hours;
            case 6: return town.laidCount();
            case 7: return town.leftCount();
            case 8: return found.lines;
            default: return refusedSteps;
        }
    }

    /** Promise 10. */
    public int wagon(int wagon, int what) throws NoSuchElementException, IllegalArgumentException {
        needWagon(wagon);
        needRange(what, 0, 6);
        switch (what) {
            case 0: return now.hours[wagon];
            case 1: return now.weight[wagon];
            case 2: return now.kind[wagon];
            case 3: return town.placeOf(wagon);
            case 4: return town.cellOf[wagon];
            case 5: return town.leftAt[wagon];
            default: return now.needs[wagon];
        }
    }

    /** Promise 11. */
    public int stands(int cell) throws IllegalArgumentException {
        needCell(cell);
        return town.wagonIn[cell];
    }

    /** Promise 12. */
    public int ground(int cell) throws IllegalArgumentException {
        needCell(cell);
        return now.ground[cell];
    }

    /** Promise 13. */
    public int tie(int wagon, int other) throws NoSuchElementException {
        needWagon(wagon);
        needWagon(other);
        return now.tieOf(wagon, other);
    }

    /** Promise 14. */
    public int lasts(int wagon, int cell) throws NoSuchElementException, IllegalArgumentException {
        needWagon(wagon);
        needCell(cell);
        return town.hoursIn(now, rule, wagon, cell);
    }

    /** Promise 15. */
    public int would(int hours, int weight, int kind, int ground, int near, int frost)
            throws IllegalArgumentException {
        needRange(hours, 1, 6);
        needRange(weight, 1, 9);
        needRange(kind, 0, 5);
        needRange(ground, 0, 9);
        needRange(near, 0, 2);
        needRange(frost, 0, 1);
        rule.tellWagon(hours, weight, kind);
        rule.tellPlace(0, ground, 0, near, frost);
        return rule.outcome();
    }

    /** Promise 16. */
    public boolean can(int wagon, int cell) throws NoSuchElementException, IllegalArgumentException {
        needWagon(wagon);
        needCell(cell);
        return town.hoursToLay(now, rule, wagon, cell) != NONE;
    }

    /** Promise 17. */
    public int cost() {
        int twice = 0;
        int hard = 0;
        for (int wagon = 0; wagon < now.wagons; wagon++) {
            int cell = town.cellOf[wagon];
            if (cell != NONE) {
                twice += town.tiesFrom(now, wagon, cell);
                hard += now.ground[cell];
            }
        }
        return twice / 2 + hard;
    }

    /** Promise 18. */
    public int ties(int wagon) throws NoSuchElementException {
        needWagon(wagon);
        int cell = town.cellOf[wagon];
        return cell == NONE ? 0 : town.tiesFrom(now, wagon, cell);
    }

    /** Promise 19. */
    public int best(int wagons) throws IllegalArgumentException {
        needFew(wagons);
        bestTown.find(now, wagons);
        return bestTown.leastCost();
    }

    /** Promise 20. */
    public int bestAt(int wagons, int wagon) throws NoSuchElementException, IllegalArgumentException {
        needWagon(wagon);
        needFew(wagons);
        bestTown.find(now, wagons);
        return bestTown.cellFor(wagon);
    }

    /** Promise 21. */
    public int rather(int wagon) throws NoSuchElementException {
        needWagon(wagon);
        int cell = town.cellOf[wagon];
        if (cell == NONE) {
            return NONE;
        }
        int least = town.tiesFrom(now, wagon, cell) + now.ground[cell];
        int chosen = NONE;
        for (int other = 0; other < CELLS; other++) {
            int there = town.tiesFrom(now, wagon, other) + now.ground[other];
            if (town.wagonIn[other] == NONE && there < least) {
                least = there;
                chosen = other;
            }
        }
        return chosen;
    }

    /** Promise 22. */
    public int load() {
        loading.find(now);
        return loading.sum();
    }

    /** Promise 23. */
    public int loaded(int place) throws IllegalArgumentException {
        needRange(place, 0, now.wagons - 1);
        loading.find(now);
        return loading.wagonAt(place);
    }

    /** Promise 24. */
    public int shunts() {
        loading.find(now);
        int pairs = 0;
        for (int place = 0; place < now.wagons; place++) {
            for (int later = place + 1; later < now.wagons; later++) {
                if (loading.wagonAt(place) > loading.wagonAt(later)) {
                    pairs++;
                }
            }
        }
        return pairs;
    }

    /** Promise 25. */
    public int crew(int wagons) throws IllegalArgumentException {
        needBits(wagons);
        crews.find(now, wagons);
        return crews.time;
    }

    /** Promise 26. */
    public int crewOf(int wagons, int wagon) throws NoSuchElementException, IllegalArgumentException {
        needWagon(wagon);
        needBits(wagons);
        crews.find(now, wagons);
        return crews.gangOf[wagon];
    }

    /** Promise 27. */
    public int behind(int wagon) throws NoSuchElementException {
        needWagon(wagon);
        return town.milesBehind(wagon);
    }

    /** Promise 28. */
    public int overtakes(int v, int d, int r) throws IllegalArgumentException {
        needRange(v, 0, 60);
        needRange(d, 0, 30);
        needRange(r, 0, 9);
        return Line.daysToOvertake(now.speed, v, d, r);
    }

    /** Promise 29. */
    public int way(int mile, int k) throws IllegalArgumentException {
        needRange(mile, 0, 250);
        needRange(k, 1, 40);
        return now.line.daysTo(mile, k, now.speed);
    }

    /** Promise 30. */
    public int water(int mile) throws IllegalArgumentException {
        needRange(mile, 0, 250);
        for (int k = 1; k <= 40; k++) {
            if (now.line.daysTo(mile, k, now.speed) != NONE) {
                return k;
            }
        }
        return NONE;
    }

    /** Promise 31. */
    public int prefer(int plan, int other) throws IllegalArgumentException {
        needTwoPlans(plan, other);
        return now.likers(plan, other);
    }

    /** Promise 32. */
    public int wins(int a, int b, int how) throws IllegalArgumentException {
        needTwoPlans(a, b);
        needRange(how, 0, 1);
        return now.agendaWinner(a, b, how);
    }

    /** Promise 33. */
    public int agendas(int plan, int how) throws IllegalArgumentException {
        needRange(plan, 0, PLANS - 1);
        needRange(how, 0, 1);
        int won = 0;
        for (int a = 0; a < PLANS; a++) {
            for (int b = 0; b < PLANS; b++) {
                if (a != b && now.agendaWinner(a, b, how) == plan) {
                    won++;
                }
            }
        }
        return won;
    }

    /** Promise 34. */
    public int beats() {
        for (int plan = 0; plan < PLANS; plan++) {
            int beaten = 0;
            for (int other = 0; other < PLANS; other++) {
                if (now.likers(plan, other) > now.likers(other, plan)) {
                    beaten++;
                }
            }
            if (beaten == PLANS - 1) {
                return plan;
            }
        }
        return NONE;
    }

    /** Promise 35. */
    public int fits() {
        return found.fittingDays(town);
    }

    /** Promise 36. */
    public int look(int what) throws IllegalArgumentException {
        needRange(what, 0, 1);
        int days = found.fittingDays(town);
        int chosen = NONE;
        int least = NONE;
        for (int cell = 0; cell < CELLS; cell++) {
            if (found.kindIn[cell] == NONE) {
                int worst = town.mostAlike(days, cell);
                if (least == NONE || worst < least) {
                    least = worst;
                    chosen = cell;
                }
            }
        }
        return what == 0 ? chosen : least;
    }

    /** Promise 37. */
    public int stood(int day, int cell) throws IllegalArgumentException {
        needRange(day, 0, NOTED_DAYS - 1);
        needCell(cell);
        return day < town.day ? town.kindNoted(day, cell) : NONE;
    }

    /** Promise 38. */
    public long mild(int n, int part) throws IllegalArgumentException {
        needRange(n, 0, 8);
        needRange(part, 0, 1);
        long above = 1;
        long below = 1;
        for (int day = 0; day < n; day++) {
            above *= FROST_PARTS - now.frost;
            below *= FROST_PARTS;
        }
        return leastTerms(above, below, part);
    }

    /** Promise 39. */
    public long ahead(int n, int part) throws IllegalArgumentException {
        needRange(n, 0, 7);
        needRange(part, 0, 1);
        long mildSoFar = 1;
        long above = 0;
        long below = 1;
        for (int day = 0; day < n; day++) {
            mildSoFar *= FROST_PARTS - now.frost;
            above = above * FROST_PARTS + mildSoFar;
            below *= FROST_PARTS;
        }
        return leastTerms(above, below, part);
    }

    /** Promise 40. */
    public int season(int seed, int days, int what) throws IllegalArgumentException {
        needRange(days, 1, 40);
        needRange(what, 0, 3);
        played.play(town, now, rule, seed, days);
        switch (what) {
            case 0: return played.town.leftCount();
            case 1: return played.laid;
            case 2: return played.frosts;
            default: return played.unused;
        }
    }

    /** Promise 41. */
    public int span(int seed, int many, int days, int what, int wagon) throws IllegalArgumentException {
        needRange(many, 1, 20);
        needRange(days, 1, 40);
        needRange(what, 0, 2);
        needRange(wagon, 0, now.wagons - 1);
        int seeds = seedsDiffer() ? many : 1;
        int fewest = MOST_WAGONS;
        int most = 0;
        int kept = 0;
        for (int i = 0; i < seeds; i++) {
            played.play(town, now, rule, seed + i, days);
            int left = played.town.leftCount();
            fewest = Math.min(fewest, left);
            most = Math.max(most, left);
            if (played.town.leftAt[wagon] == NONE) {
                kept++;
            }
        }
        if (what == 2) {
            return seeds == many ? kept : kept * many;
        }
        return what == 0 ? fewest : most;
    }

    /** Promise 42. */
    public int image() {
        if (imageCount >= MOST_IMAGES) {
            return NONE;
        }
        images[imageCount] = town;
        imageCount++;
        return imageCount;
    }

    /** Promise 43. */
    public int restore() {
        if (imageCount <= 0) {
            return NONE;
        }
        imageCount--;
        Town kept = images[imageCount];
        images[imageCount] = null;
        if (kept != null) {
            town = kept;
        }
        refusedSteps = 0;
        return imageCount;
    }

    /** Promise 44. */
    public int status(int what) {
        switch (what) {
            case 0: return refusedElements;
            case 1: return refusedArguments;
            default: return NONE;
        }
    }

    /** Promise 45. */
    public int count(int what) {
        switch (what) {
            case 0: return imageCount;
            case 1: return tape.size;
            case 2: return town.works;
            default: return NONE;
        }
    }

    /** Whether who is left may hang on the seed; if not, one season stands for all. */
    private boolean seedsDiffer() {
        return rule.usesFrost && now.frost > 0 && now.frost < FROST_PARTS;
    }

    private void openText(int n, int most) {
        needRange(n, 0, Math.min(most, tape.size));
        tape.open(n);
    }

    private void forgetImages() {
        for (int i = 0; i < MOST_IMAGES; i++) {
            images[i] = null;
        }
        imageCount = 0;
    }

    private void needRange(int value, int least, int most) {
        if (value < least || value > most) {
            refusedArguments++;
            throw new IllegalArgumentException("a number that is out of its range");
        }
    }

    private void needCell(int cell) {
        needRange(cell, 0, CELLS - 1);
    }

    private void needBits(int wagons) {
        needRange(wagons, 0, (1 << now.wagons) - 1);
    }

    private void needFew(int wagons) {
        needBits(wagons);
        needRange(Integer.bitCount(wagons), 0, MOST_BEST);
    }

    private void needTwoPlans(int plan, int other) {
        needRange(plan, 0, PLANS - 1);
        needRange(other, 0, PLANS - 1);
        if (plan == other) {
            refusedArguments++;
            throw new IllegalArgumentException("one plan instead of two");
        }
    }

    private void needWagon(int wagon) {
        if (wagon < 0 || wagon >= now.wagons) {
            refusedElements++;
            throw new NoSuchElementException("no such wagon");
        }
    }

    private static long leastTerms(long above, long below, int part) {
        long divisor = below;
        long rest = above;
        for (int i = 0; i < 100 && rest != 0; i++) {
            long next = divisor % rest;
            divisor = rest;
            rest = next;
        }
        if (divisor == 0) {
            return part == 0 ? above : below;
        }
        return (part == 0 ? above : below) / divisor;
    }

    /** The bytes that were fed, and the reading of one text of them, token by token. */
    private static final class Tape {
        private final int[] bytes = new int[MOST_TAPE];
        private int size;
        private int end;
        private int at;
        private int start;
        private int value;
        private int faultKind;
        private int faultPlace = NONE;

        void put(int number) {
            for (int shift = 24; shift >= 0; shift -= 8) {
                if (size < MOST_TAPE) {
                    bytes[size] = number >>> shift & 255;
                    size++;
                }
            }
        }

        /** The tape counts as empty from here on; the text's bytes stay until more are fed. */
        void open(int n) {
            end = n;
            at = 0;
            size = 0;
            faultPlace = NONE;
        }

        int faultAnswer() {
            return faultKind - 10;
        }

        /** Answers false, so that a reader can hand it on. */
        boolean fail(int kind) {
            faultKind = kind;
            faultPlace = start;
            return false;
        }

        /** Whether a token is still there; it starts at the first byte behind the blanks. */
        boolean more() {
            while (at < end && bytes[at] == ' ') {
                at++;
            }
            start = at;
            return at < end;
        }

        int peek() {
            return more() ? bytes[at] : NONE;
        }

        boolean takes(char sign) {
            if (!more() || bytes[at] != sign) {
                return false;
            }
            at++;
            return true;
        }

        boolean sign(char sign) {
            return takes(sign) || fail(MISPLACED);
        }

        boolean number(int least, int most) {
            if (!isDigit(peek())) {
                return fail(MISPLACED);
            }
            value = 0;
            while (at < end && isDigit(bytes[at])) {
                // beyond this the number is out of every range, and must not wrap
                if (value < 100000) {
                    value = value * 10 + bytes[at] - '0';
                }
                at++;
            }
            return value >= least && value <= most || fail(NO_SUCH_NUMBER);
        }

        /** The word's place in a list of words with blanks between; NONE, with a fault, if it is not there. */
        int word(String list) {
            more();
            while (at < end && bytes[at] >= 'a' && bytes[at] <= 'z') {
                at++;
            }
            int index = 0;
            int from = 0;
            for (int to = 0; to <= list.length(); to++) {
                if (to == list.length() || list.charAt(to) == ' ') {
                    if (isWord(list, from, to)) {
                        return index;
                    }
                    index++;
                    from = to + 1;
                }
            }
            fail(MISPLACED);
            return NONE;
        }

        private boolean isWord(String list, int from, int to) {
            if (to - from != at - start) {
                return false;
            }
            for (int i = from; i < to; i++) {
                if (list.charAt(i) != bytes[start + i - from]) {
                    return false;
                }
            }
            return true;
        }

        static boolean isDigit(int sign) {
            return sign >= '0' && sign <= '9';
        }
    }

    /** What a TRAIN's clauses tell. */
    private static final class Train {
        private static final String WORDS = "wagon tie needs ground hours speed gang voter well frost";
        private static final int MOST_CLAUSES = 60;

        private final int[] hours = new int[MOST_WAGONS];
        private final int[] weight = new int[MOST_WAGONS];
        private final int[] kind = new int[MOST_WAGONS];
        private final int[] needs = new int[MOST_WAGONS];
        private final int[] tied = new int[MOST_WAGONS * MOST_WAGONS];
        private final int[] ground = new int[CELLS];
        private final int[] quick = new int[MOST_GANGS];
        private final int[] rank = new int[MOST_VOTERS * PLANS];
        private final Line line = new Line();
        private int wagons;
        private int gangs;
        private int voters;
        private int dayHours = 8;
        private int speed = 5;
        private int frost;

        private void clear() {
            Arrays.fill(needs, 0);
            Arrays.fill(tied, 0);
            Arrays.fill(ground, 0);
            line.wells = 0;
            wagons = 0;
            gangs = 0;
            voters = 0;
            dayHours = 8;
            speed = 5;
            frost = 0;
        }

        boolean read(Tape tape) {
            clear();
            for (int clauses = 0; clauses <= MOST_CLAUSES; clauses++) {
                if (!tape.more()) {
                    return true;
                }
                int word = tape.word(WORDS);
                if (word == NONE) {
                    return false;
                }
                if (clauses == MOST_CLAUSES) {
                    return tape.fail(TOO_MANY);
                }
                if (!readClause(tape, word) || !tape.sign(';')) {
                    return false;
                }
            }
            return true;
        }

        private boolean readClause(Tape tape, int word) {
            switch (word) {
                case 0: return readWagon(tape);
                case 1: return readTie(tape);
                case 2: return readNeeds(tape);
                case 3: return readGround(tape);
                case 4: return readHours(tape);
                case 5: return readSpeed(tape);
                case 6: return readGang(tape);
                case 7: return readVoter(tape);
                case 8: return line.readWell(tape);
                default: return readFrost(tape);
            }
        }

        private boolean readWagon(Tape tape) {
            if (wagons >= MOST_WAGONS) {
                return tape.fail(TOO_MANY);
            }
            if (!tape.number(1, 6)) {
                return false;
            }
            hours[wagons] = tape.value;
            if (!tape.number(1, 9)) {
                return false;
            }
            weight[wagons] = tape.value;
            if (!tape.number(0, 5)) {
                return false;
            }
            kind[wagons] = tape.value;
            wagons++;
            return true;
        }

        private boolean readTie(Tape tape) {
            if (!tape.number(0, wagons - 1)) {
                return false;
            }
            int wagon = tape.value;
            if (!tape.number(0, wagons - 1)) {
                return false;
            }
            int other = tape.value;
            if (wagon == other) {
                return tape.fail(NO_SUCH_NUMBER);
            }
            if (!tape.number(1, 9)) {
                return false;
            }
            tied[wagon * MOST_WAGONS + other] += tape.value;
            tied[other * MOST_WAGONS + wagon] += tape.value;
            return true;
        }

        private boolean readNeeds(Tape tape) {
            if (!tape.number(0, wagons - 1)) {
                return false;
            }
            int wagon = tape.value;
            if (!tape.number(0, wagon - 1)) {
                return false;
            }
            needs[wagon] |= 1 << tape.value;
            return true;
        }

        private boolean readGround(Tape tape) {
            if (!tape.number(0, CELLS - 1)) {
                return false;
            }
            int cell = tape.value;
            if (!tape.number(0, 9)) {
                return false;
            }
            ground[cell] = tape.value;
            return true;
        }

        private boolean readHours(Tape tape) {
            if (!tape.number(1, 24)) {
                return false;
            }
            dayHours = tape.value;
            return true;
        }

        private boolean readSpeed(Tape tape) {
            if (!tape.number(1, 20)) {
                return false;
            }
            speed = tape.value;
            return true;
        }

        private boolean readFrost(Tape tape) {
            if (!tape.number(0, FROST_PARTS)) {
                return false;
            }
            frost = tape.value;
            return true;
        }

        private boolean readGang(Tape tape) {
            if (gangs >= MOST_GANGS) {
                return tape.fail(TOO_MANY);
            }
            if (!tape.number(1, 3)) {
                return false;
            }
            quick[gangs] = tape.value;
            gangs++;
            return true;
        }

        private boolean readVoter(Tape tape) {
            if (voters >= MOST_VOTERS) {
                return tape.fail(TOO_MANY);
            }
            int liked = 0;
            for (int place = 0; place < PLANS; place++) {
                if (!tape.number(0, PLANS - 1)) {
                    return false;
                }
                int plan = tape.value;
                if ((liked >> plan & 1) != 0) {
                    return tape.fail(NO_SUCH_NUMBER);
                }
                liked |= 1 << plan;
                rank[voters * PLANS + plan] = place;
            }
            voters++;
            return true;
        }

        int tieOf(int wagon, int other) {
            return tied[wagon * MOST_WAGONS + other];
        }

        int likers(int plan, int other) {
            int many = 0;
            for (int voter = 0; voter < voters; voter++) {
                if (rank[voter * PLANS + plan] < rank[voter * PLANS + other]) {
                    many++;
                }
            }
            return many;
        }

        private int voteWinner(int plan, int other) {
            return likers(other, plan) > likers(plan, other) ? other : plan;
        }

        int agendaWinner(int a, int b, int how) {
            int third = PLANS - a - b;
            if (how == 0) {
                return voteWinner(voteWinner(a, b), third);
            }
            return voteWinner(voteWinner(a, third), voteWinner(b, third));
        }
    }

    /** The line with its wells, kept in their order along it. */
    private static final class Line {
        private final int[] well = new int[MOST_WELLS];
        private final int[] fewest = new int[MOST_WELLS];
        private int wells;

        boolean readWell(Tape tape) {
            if (wells >= MOST_WELLS) {
                return tape.fail(TOO_MANY);
            }
            if (!tape.number(1, 200)) {
                return false;
            }
            int place = wells;
            while (place > 0 && well[place - 1] > tape.value) {
                well[place] = well[place - 1];
                place--;
            }
            well[place] = tape.value;
            wells++;
            return true;
        }

        int daysTo(int mile, int k, int speed) {
            for (int i = 0; i < wells; i++) {
                fewest[i] = fewestTo(well[i], i, k, speed);
            }
            return fewestTo(mile, wells, k, speed);
        }

        /** By the start or one of the first stops; the wells are few, so each is tried as the last one. */
        private int fewestTo(int mile, int stops, int k, int speed) {
            int direct = daysFor(mile, speed);
            int least = direct <= k ? direct : NONE;
            for (int i = 0; i < stops; i++) {
                if (fewest[i] != NONE && well[i] <= mile) {
                    int days = daysFor(mile - well[i], speed);
                    if (days <= k && (least == NONE || fewest[i] + days < least)) {
                        least = fewest[i] + days;
                    }
                }
            }
            return least;
        }

        private static int daysFor(int miles, int speed) {
            int pace = Math.max(1, speed);
            return (miles + pace - 1) / pace;
        }

        static int daysToOvertake(int speed, int walk, int ago, int rest) {
            if (ago == 0) {
                return 0;
            }
            int gap = ago * speed;
            for (int day = 1; day <= 400; day++) {
                boolean rests = rest > 0 && day % rest == 0;
                gap += (rests ? 0 : speed) - walk;
                if (gap <= 0) {
                    return day;
                }
            }
            return NONE;
        }
    }

    /** The LAW as a row of values and operators, each operator behind what it joins. */
    private static final class Law {
        private static final String WORDS = "hours weight kind cell ground day near frost least most";
        private static final int VALUES = 8;
        private static final int GROUND = 4;
        private static final int DAY = 5;
        private static final int FROST = 7;
        private static final int LEAST = 8;

        private static final int FIRST_VALUE = 1000;
        private static final int FIRST_JOIN = 2000;
        private static final int ADD = 2000;
        private static final int SUBTRACT = 2001;
        private static final int TIMES = 2002;
        private static final int DIVIDE = 2003;
        private static final int JOIN_LEAST = 2004;
        private static final int JOIN_MOST = 2005;

        private static final int MOST_STACK = 32;

        private final int[] code = new int[MOST_TEXT];
        private final int[] draft = new int[MOST_TEXT];
        private final int[] values = new int[VALUES];
        private final int[] stack = new int[MOST_STACK];
        private final int[] known = new int[MOST_WAGONS * CELLS * 6];
        private int size;
        private int draftSize;
        private int version;
        private boolean usesDay;
        private boolean usesFrost;

        Law() {
            putUsual();
        }

        void forget() {
            putUsual();
        }

        private void putUsual() {
            draftSize = 0;
            emit(FIRST_VALUE);
            emit(FIRST_VALUE + GROUND);
            emit(3);
            emit(DIVIDE);
            emit(ADD);
            putDraft();
        }

        boolean read(Tape tape) {
            draftSize = 0;
            if (!readSum(tape, 0)) {
                return false;
            }
            if (tape.more()) {
                return tape.fail(MISPLACED);
            }
            putDraft();
            return true;
        }

        private void putDraft() {
            System.arraycopy(draft, 0, code, 0, draftSize);
            size = draftSize;
            version++;
            usesDay = false;
            usesFrost = false;
            for (int i = 0; i < size; i++) {
                usesDay |= code[i] == FIRST_VALUE + DAY;
                usesFrost |= code[i] == FIRST_VALUE + FROST;
            }
        }

        /** Answers true, so that a reader can hand it on. */
        private boolean emit(int part) {
            if (draftSize < MOST_TEXT) {
                draft[draftSize] = part;
                draftSize++;
            }
            return true;
        }

        private boolean readSum(Tape tape, int open) {
            boolean read = readProduct(tape, open);
            for (int i = 0; i < MOST_TEXT && read; i++) {
                if (tape.takes('+')) {
                    read = readProduct(tape, open) && emit(ADD);
                } else if (tape.takes('-')) {
                    read = readProduct(tape, open) && emit(SUBTRACT);
                } else {
                    return true;
                }
            }
            return read;
        }

        private boolean readProduct(Tape tape, int open) {
            boolean read = readPart(tape, open);
            for (int i = 0; i < MOST_TEXT && read; i++) {
                if (tape.takes('*')) {
                    read = readPart(tape, open) && emit(TIMES);
                } else if (tape.takes('/')) {
                    read = readPart(tape, open) && emit(DIVIDE);
                } else {
                    return true;
                }
            }
            return read;
        }

        private boolean readPart(Tape tape, int open) {
            int sign = tape.peek();
            if (Tape.isDigit(sign)) {
                return tape.number(0, 999) && emit(tape.value);
            }
            if (sign == '(') {
                if (open >= MOST_OPEN) {
                    return tape.fail(TOO_MANY);
                }
                return tape.sign('(') && readSum(tape, open + 1) && tape.sign(')');
            }
            int word = tape.word(WORDS);
            if (word == NONE) {
                return false;
            }
            if (word < VALUES) {
                return emit(FIRST_VALUE + word);
            }
            if (open >= MOST_OPEN) {
                return tape.fail(TOO_MANY);
            }
            return tape.sign('[') && readSum(tape, open + 1) && tape.sign(',') && readSum(tape, open + 1)
                && tape.sign(']') && emit(word == LEAST ? JOIN_LEAST : JOIN_MOST);
        }

        void tellWagon(int hours, int weight, int kind) {
            values[0] = hours;
            values[1] = weight;
            values[2] = kind;
        }

        void tellPlace(int cell, int ground, int day, int near, int frost) {
            values[3] = cell;
            values[GROUND] = ground;
            values[DAY] = day;
            values[6] = near;
            values[FROST] = frost;
        }

        /** A season asks for the same hours over and over, so they are kept with the law's version and the day. */
        int hoursFor(Train train, int wagon, int cell, int day, int near, int frost) {
            int stamp = version << 8 | (usesDay ? day : 0);
            int at = ((wagon * CELLS + cell) * 3 + near) * 2 + frost;
            if (known[at] >> 5 == stamp) {
                return known[at] & 31;
            }
            tellWagon(train.hours[wagon], train.weight[wagon], train.kind[wagon]);
            tellPlace(cell, train.ground[cell], day, near, frost);
            int hours = outcome();
            known[at] = stamp << 5 | hours;
            return hours;
        }

        int outcome() {
            int top = 0;
            for (int i = 0; i < size; i++) {
                int part = code[i];
                if (part < FIRST_JOIN) {
                    if (top < MOST_STACK) {
                        stack[top] = part < FIRST_VALUE ? part : values[part - FIRST_VALUE];
                        top++;
                    }
                } else if (top >= 2) {
                    top--;
                    stack[top - 1] = join(part, stack[top - 1], stack[top]);
                }
            }
            return Math.max(1, Math.min(24, stack[0]));
        }

        private static int join(int part, int left, int right) {
            switch (part) {
                case ADD: return left + right;
                case SUBTRACT: return left - right;
                case TIMES: return left * right;
                case DIVIDE: return right == 0 ? 0 : left / right;
                case JOIN_LEAST: return left < right ? left : right;
                default: return left > right ? left : right;
            }
        }
    }

    /** All that WORK changes, and the town that undo goes back to. */
    private static final class Town {
        private static final int LAST_DAY = 200;

        private final int[] cellOf = new int[MOST_WAGONS];
        private final int[] leftAt = new int[MOST_WAGONS];
        private final int[] wagonIn = new int[CELLS];
        private final long[] notes = new long[NOTED_DAYS];
        private int day;
        private int mile;
        private int hours;
        private int frost;
        private int laidBits;
        private int works;
        private Town previous;

        Town() {
            Arrays.fill(cellOf, NONE);
            Arrays.fill(leftAt, NONE);
            Arrays.fill(wagonIn, NONE);
        }

        /** All but the way back, which belongs to one town alone. */
        void copy(Town other) {
            System.arraycopy(other.cellOf, 0, cellOf, 0, MOST_WAGONS);
            System.arraycopy(other.leftAt, 0, leftAt, 0, MOST_WAGONS);
            System.arraycopy(other.wagonIn, 0, wagonIn, 0, CELLS);
            System.arraycopy(other.notes, 0, notes, 0, NOTED_DAYS);
            day = other.day;
            mile = other.mile;
            hours = other.hours;
            frost = other.frost;
            laidBits = other.laidBits;
        }

        int laidCount() {
            return Integer.bitCount(laidBits);
        }

        int leftCount() {
            int many = 0;
            for (int wagon = 0; wagon < MOST_WAGONS; wagon++) {
                if (leftAt[wagon] != NONE) {
                    many++;
                }
            }
            return many;
        }

        int placeOf(int wagon) {
            if (cellOf[wagon] != NONE) {
                return 1;
            }
            return leftAt[wagon] != NONE ? 2 : 0;
        }

        int milesBehind(int wagon) {
            return leftAt[wagon] == NONE ? 0 : mile - leftAt[wagon];
        }

        private boolean isLaidIn(int cell) {
            return cell >= 0 && cell < CELLS && wagonIn[cell] != NONE;
        }

        int hoursIn(Train train, Law law, int wagon, int cell) {
            int near = (isLaidIn(cell - 1) ? 1 : 0) + (isLaidIn(cell + 1) ? 1 : 0);
            return law.hoursFor(train, wagon, cell, day, near, frost);
        }

        /** NONE, if the wagon can't be laid there now. */
        int hoursToLay(Train train, Law law, int wagon, int cell) {
            if (wagonIn[cell] != NONE || !isReady(train, wagon)) {
                return NONE;
            }
            int needed = hoursIn(train, law, wagon, cell);
            return needed <= hours ? needed : NONE;
        }

        /** Whether a wagon could be laid in some cell, were it not for the hours that it lasts there. */
        boolean isReady(Train train, int wagon) {
            return hours > 0 && placeOf(wagon) == 0 && (train.needs[wagon] & ~laidBits) == 0;
        }

        void put(int wagon, int cell, int needed) {
            cellOf[wagon] = cell;
            wagonIn[cell] = wagon;
            laidBits |= 1 << wagon;
            hours -= needed;
        }

        boolean takeUp(Train train, int wagon) {
            int cell = cellOf[wagon];
            int needed = Math.max(1, train.hours[wagon] / 2);
            if (cell == NONE || needed > hours || isNeeded(train, wagon)) {
                return false;
            }
            wagonIn[cell] = NONE;
            cellOf[wagon] = NONE;
            laidBits &= ~(1 << wagon);
            hours -= needed;
            return true;
        }

        private boolean isNeeded(Train train, int wagon) {
            for (int other = 0; other < train.wagons; other++) {
                if (cellOf[other] != NONE && (train.needs[other] >> wagon & 1) != 0) {
                    return true;
                }
            }
            return false;
        }

        boolean fetchBack(int wagon) {
            int needed = 1 + (milesBehind(wagon) + 9) / 10;
            if (leftAt[wagon] == NONE || needed > hours) {
                return false;
            }
            leftAt[wagon] = NONE;
            hours -= needed;
            return true;
        }

        boolean endDay(Train train) {
            if (day >= LAST_DAY) {
                return false;
            }
            if (day < NOTED_DAYS) {
                notes[day] = kindsNow(train);
            }
            for (int wagon = 0; wagon < MOST_WAGONS; wagon++) {
                if (cellOf[wagon] != NONE) {
                    cellOf[wagon] = NONE;
                    leftAt[wagon] = mile;
                }
            }
            Arrays.fill(wagonIn, NONE);
            laidBits = 0;
            day++;
            mile += train.speed;
            hours = train.dayHours;
            return true;
        }

        /** Three bits a cell, so that a copy of all noted towns stays small. */
        private long kindsNow(Train train) {
            long kinds = 0;
            for (int cell = CELLS - 1; cell >= 0; cell--) {
                int wagon = wagonIn[cell];
                kinds = kinds << 3 | (wagon == NONE ? NOTHING : train.kind[wagon]);
            }
            return kinds;
        }

        int kindNoted(int noted, int cell) {
            return (int) (notes[noted] >> 3 * cell & 7);
        }

        /** Of some noted days (bits) the most on which the same stood in a cell. */
        int mostAlike(int days, int cell) {
            int most = 0;
            for (int kind = 0; kind <= NOTHING; kind++) {
                int many = 0;
                for (int noted = 0; noted < NOTED_DAYS; noted++) {
                    if ((days >> noted & 1) != 0 && kindNoted(noted, cell) == kind) {
                        many++;
                    }
                }
                most = Math.max(most, many);
            }
            return most;
        }

        int tiesFrom(Train train, int wagon, int cell) {
            int sum = 0;
            for (int other = 0; other < train.wagons; other++) {
                if (cellOf[other] != NONE) {
                    sum += train.tieOf(wagon, other) * Math.abs(cell - cellOf[other]);
                }
            }
            return sum;
        }
    }

    /** WORK as a row of steps; a loop's end is a row of its own. */
    private static final class Steps {
        private static final String WORDS = "lay take fetch day again";
        private static final int LAY = 0;
        private static final int TAKE = 1;
        private static final int FETCH = 2;
        private static final int DAY = 3;
        private static final int AGAIN = 4;
        private static final int CLOSE = 5;
        private static final int MOST_STEPS = 200;
        private static final int MOST_TURNS = 1000000;

        private final int[] what = new int[MOST_TEXT];
        private final int[] first = new int[MOST_TEXT];
        private final int[] second = new int[MOST_TEXT];
        private final int[] opened = new int[MOST_OPEN];
        private final int[] turnsLeft = new int[MOST_OPEN];
        private int size;
        private int open;
        private int done;
        private int refused;

        boolean read(Tape tape, int wagons) {
            size = 0;
            open = 0;
            for (int i = 0; i <= MOST_TEXT; i++) {
                boolean read;
                if (open > 0 && tape.takes(']')) {
                    read = closeLoop() && tape.sign(';');
                } else if (tape.more()) {
                    read = readStep(tape, wagons);
                } else {
                    return open == 0 || tape.fail(MISPLACED);
                }
                if (!read) {
                    return false;
                }
            }
            return true;
        }

        private boolean readStep(Tape tape, int wagons) {
            int word = tape.word(WORDS);
            switch (word) {
                case LAY: return readLay(tape, wagons);
                case TAKE:
                case FETCH:
                    return tape.number(0, wagons - 1) && add(word, tape.value, 0) && tape.sign(';');
                case DAY: return add(DAY, 0, 0) && tape.sign(';');
                case AGAIN: return readAgain(tape);
                default: return false;
            }
        }

        private boolean readLay(Tape tape, int wagons) {
            if (!tape.number(0, wagons - 1)) {
                return false;
            }
            int wagon = tape.value;
            return tape.number(0, CELLS - 1) && add(LAY, wagon, tape.value) && tape.sign(';');
        }

        private boolean readAgain(Tape tape) {
            if (open >= MOST_OPEN) {
                return tape.fail(TOO_MANY);
            }
            opened[open] = size;
            open++;
            return tape.number(0, 20) && add(AGAIN, tape.value, 0) && tape.sign('[');
        }

        private boolean closeLoop() {
            open--;
            int start = opened[open];
            second[start] = size;
            return add(CLOSE, start, 0);
        }

        /** Answers true, so that a reader can hand it on: a text has more bytes than steps. */
        private boolean add(int step, int a, int b) {
            if (size < MOST_TEXT) {
                what[size] = step;
                first[size] = a;
                second[size] = b;
                size++;
            }
            return true;
        }

        void run(Town town, Train train, Law law) {
            done = 0;
            refused = 0;
            open = 0;
            int begun = 0;
            int at = 0;
            for (int turn = 0; turn < MOST_TURNS && at < size; turn++) {
                if (what[at] == CLOSE) {
                    at = endTurn(at);
                    continue;
                }
                if (begun == MOST_STEPS) {
                    return;
                }
                begun++;
                if (what[at] == AGAIN) {
                    at = startLoop(at);
                } else {
                    if (doStep(at, town, train, law)) {
                        done++;
                    } else {
                        refused++;
                    }
                    at++;
                }
            }
        }

        /** Where it goes on: in the loop, or behind it, if it is done no time. */
        private int startLoop(int at) {
            if (first[at] == 0 || open >= MOST_OPEN) {
                return second[at] + 1;
            }
            turnsLeft[open] = first[at];
            open++;
            return at + 1;
        }

        private int endTurn(int at) {
            if (open <= 0) {
                return at + 1;
            }
            turnsLeft[open - 1]--;
            if (turnsLeft[open - 1] > 0) {
                return first[at] + 1;
            }
            open--;
            return at + 1;
        }

        private boolean doStep(int at, Town town, Train train, Law law) {
            int wagon = first[at];
            switch (what[at]) {
                case LAY:
                    int needed = town.hoursToLay(train, law, wagon, second[at]);
                    if (needed == NONE) {
                        return false;
                    }
                    town.put(wagon, second[at], needed);
                    return true;
                case TAKE: return town.takeUp(train, wagon);
                case FETCH: return town.fetchBack(wagon);
                default: return town.endDay(train);
            }
        }
    }

    /** What was found: a kind for each cell that is in a line. */
    private static final class Book {
        private static final int MOST_LINES = 8;

        private final int[] kindIn = new int[CELLS];
        private final int[] draft = new int[CELLS];
        private int lines;

        Book() {
            Arrays.fill(kindIn, NONE);
        }

        void forget() {
            Arrays.fill(kindIn, NONE);
            lines = 0;
        }

        boolean read(Tape tape) {
            Arrays.fill(draft, NONE);
            for (int line = 0; line <= MOST_LINES; line++) {
                if (!tape.more()) {
                    System.arraycopy(draft, 0, kindIn, 0, CELLS);
                    lines = line;
                    return true;
                }
                if (!readLine(tape, line)) {
                    return false;
                }
            }
            return true;
        }

        private boolean readLine(Tape tape, int line) {
            if (!tape.number(0, CELLS - 1)) {
                return false;
            }
            int cell = tape.value;
            if (draft[cell] != NONE) {
                return tape.fail(NO_SUCH_NUMBER);
            }
            if (line >= MOST_LINES) {
                return tape.fail(TOO_MANY);
            }
            if (!tape.number(0, NOTHING)) {
                return false;
            }
            draft[cell] = tape.value;
            return tape.sign(';');
        }

        int fittingDays(Town town) {
            int days = 0;
            for (int noted = 0; noted < NOTED_DAYS && noted < town.day; noted++) {
                if (fitsOn(town, noted)) {
                    days |= 1 << noted;
                }
            }
            return days;
        }

        private boolean fitsOn(Town town, int noted) {
            for (int cell = 0; cell < CELLS; cell++) {
                if (kindIn[cell] != NONE && kindIn[cell] != town.kindNoted(noted, cell)) {
                    return false;
                }
            }
            return true;
        }
    }

    /**
     * BEST, cell by cell from the left: a tie costs its number at each step from one cell to the next between its
     * two, so only which wagons stand so far matters. A value is the cost above the cells of the wagons (four bits
     * each, the first told highest): the least value has the least cost, and of alike towns the first.
     */
    private static final class BestTown {
        private static final int CELL_BITS = 4;
        private static final int COST_SHIFT = CELL_BITS * MOST_BEST;
        private static final long UNREACHED = 1L << 62;

        private final long[] least = new long[1 << MOST_BEST];
        private final int[] cut = new int[1 << MOST_BEST];
        private final int[] wagonAt = new int[MOST_BEST];
        private int many;
        private int asked = NONE;
        private long answer;

        void forget() {
            asked = NONE;
        }

        void find(Train train, int wagons) {
            if (asked == wagons) {
                return;
            }
            asked = wagons;
            many = 0;
            for (int wagon = 0; wagon < train.wagons; wagon++) {
                if ((wagons >> wagon & 1) != 0 && many < MOST_BEST) {
                    wagonAt[many] = wagon;
                    many++;
                }
            }
            findCuts(train);
            int all = (1 << many) - 1;
            Arrays.fill(least, UNREACHED);
            least[0] = 0;
            for (int cell = 0; cell < CELLS; cell++) {
                standIn(cell, train.ground[cell], all);
                goOn(all);
            }
            answer = least[all];
        }

        /** What the ties cost between some wagons and the others, when one goes from one cell to the next. */
        private void findCuts(Train train) {
            for (int set = 0; set < 1 << many; set++) {
                cut[set] = 0;
                for (int i = 0; i < many; i++) {
                    for (int j = 0; j < many; j++) {
                        if ((set >> i & 1) != 0 && (set >> j & 1) == 0) {
                            cut[set] += train.tieOf(wagonAt[i], wagonAt[j]);
                        }
                    }
                }
            }
        }

        /** From the largest set down, so that a cell takes one wagon at most. */
        private void standIn(int cell, int hard, int all) {
            for (int set = all; set > 0; set--) {
                for (int i = 0; i < many; i++) {
                    int rest = set & ~(1 << i);
                    if (rest != set && least[rest] != UNREACHED) {
                        long value = least[rest] + ((long) hard << COST_SHIFT) + ((long) cell << cellShift(i));
                        least[set] = Math.min(least[set], value);
                    }
                }
            }
        }

        private void goOn(int all) {
            for (int set = 0; set <= all; set++) {
                if (least[set] != UNREACHED) {
                    least[set] += (long) cut[set] << COST_SHIFT;
                }
            }
        }

        private static int cellShift(int i) {
            return CELL_BITS * (MOST_BEST - 1 - i);
        }

        int leastCost() {
            return (int) (answer >> COST_SHIFT);
        }

        int cellFor(int wagon) {
            for (int i = 0; i < many; i++) {
                if (wagonAt[i] == wagon) {
                    return (int) (answer >> cellShift(i) & 15);
                }
            }
            return NONE;
        }
    }

    /**
     * LOAD by sets of wagons that stand ahead. A value is the sum above the wagons of the places (three bits each,
     * the first place highest): the least value has the least sum, and of alike rows the first.
     */
    private static final class Loading {
        private static final int WAGON_BITS = 3;
        private static final int SUM_SHIFT = WAGON_BITS * MOST_WAGONS;
        private static final long UNREACHED = 1L << 62;

        private final long[] least = new long[1 << MOST_WAGONS];
        private boolean found;
        private long answer;

        void forget() {
            found = false;
        }

        void find(Train train) {
            if (found) {
                return;
            }
            found = true;
            int all = (1 << train.wagons) - 1;
            least[0] = 0;
            for (int set = 1; set <= all; set++) {
                least[set] = leastOf(train, set);
            }
            answer = least[all];
        }

        private long leastOf(Train train, int set) {
            int place = Integer.bitCount(set);
            long value = UNREACHED;
            for (int wagon = 0; wagon < train.wagons; wagon++) {
                int rest = set & ~(1 << wagon);
                if (rest != set && (train.needs[wagon] & ~rest) == 0 && least[rest] != UNREACHED) {
                    long sum = (long) (place * train.weight[wagon]) << SUM_SHIFT;
                    value = Math.min(value, least[rest] + sum + ((long) wagon << placeShift(place - 1)));
                }
            }
            return value;
        }

        private static int placeShift(int place) {
            return WAGON_BITS * (MOST_WAGONS - 1 - place);
        }

        int sum() {
            return (int) (answer >> SUM_SHIFT);
        }

        int wagonAt(int place) {
            return (int) (answer >> placeShift(place) & 7);
        }
    }

    /** CREW: the least time for which all wagons find room, each with the first gang by which the rest do too. */
    private static final class Crews {
        private static final int MOST_TIME = 6 * MOST_WAGONS;

        private final int[] gangOf = new int[MOST_WAGONS];
        private final int[] room = new int[MOST_GANGS];
        private int asked = NONE;
        private int time;

        void forget() {
            asked = NONE;
        }

        void find(Train train, int wagons) {
            if (asked == wagons) {
                return;
            }
            asked = wagons;
            time = wagons == 0 ? 0 : NONE;
            Arrays.fill(gangOf, NONE);
            if (wagons == 0 || train.gangs == 0) {
                return;
            }
            for (int hours = leastTime(train, wagons); hours <= MOST_TIME; hours++) {
                for (int gang = 0; gang < train.gangs; gang++) {
                    room[gang] = hours * train.quick[gang];
                }
                if (findsRoom(train, wagons, 0)) {
                    time = hours;
                    return;
                }
            }
        }

        private static int leastTime(Train train, int wagons) {
            int hours = 0;
            for (int wagon = 0; wagon < train.wagons; wagon++) {
                if ((wagons >> wagon & 1) != 0) {
                    hours += train.hours[wagon];
                }
            }
            int quick = 0;
            for (int gang = 0; gang < train.gangs; gang++) {
                quick += train.quick[gang];
            }
            return quick == 0 ? 0 : (hours + quick - 1) / quick;
        }

        private boolean findsRoom(Train train, int wagons, int wagon) {
            if (wagon >= train.wagons) {
                return true;
            }
            if ((wagons >> wagon & 1) == 0) {
                return findsRoom(train, wagons, wagon + 1);
            }
            int hours = train.hours[wagon];
            for (int gang = 0; gang < train.gangs; gang++) {
                if (room[gang] >= hours && isFirstSuch(gang)) {
                    room[gang] -= hours;
                    gangOf[wagon] = gang;
                    if (findsRoom(train, wagons, wagon + 1)) {
                        return true;
                    }
                    room[gang] += hours;
                }
            }
            gangOf[wagon] = NONE;
            return false;
        }

        /** A gang with as much room as one ahead of it fails where that one failed. */
        private boolean isFirstSuch(int gang) {
            for (int other = 0; other < gang; other++) {
                if (room[other] == room[gang]) {
                    return false;
                }
            }
            return true;
        }
    }

    /** A SEASON, played in a town of its own. */
    private static final class Season {
        private final Town town = new Town();
        private int laid;
        private int frosts;
        private int unused;

        void play(Town from, Train train, Law law, int seed, int days) {
            town.copy(from);
            laid = 0;
            frosts = 0;
            unused = 0;
            int drawn = seed;
            for (int day = 0; day < days; day++) {
                drawn = drawn * 1103515245 + 12345;
                town.frost = (drawn >>> 16 & 32767) % FROST_PARTS < train.frost ? 1 : 0;
                frosts += town.frost;
                for (int wagon = 0; wagon < train.wagons; wagon++) {
                    layFirst(train, law, wagon);
                }
                for (int wagon = train.wagons - 1; wagon >= 0; wagon--) {
                    town.takeUp(train, wagon);
                }
                unused += town.hours;
                town.endDay(train);
            }
        }

        private void layFirst(Train train, Law law, int wagon) {
            if (!town.isReady(train, wagon)) {
                return;
            }
            for (int cell = 0; cell < CELLS; cell++) {
                int needed = town.hoursToLay(train, law, wagon, cell);
                if (needed != NONE) {
                    town.put(wagon, cell, needed);
                    laid++;
                    return;
                }
            }
        }
    }
}
