import java.util.Random;

/** Runs of calls by seeds, each answer held against the model's; any other exception ends the test. */
public final class RandomTest {
    private static final int RUNS = 500;
    private static final int CALLS = 250;

    private final Check c;
    private final Random r;
    private final TownTrain x = new TownTrain();
    private final Model m = new Model();
    private final int run;
    private int wagons = 0;

    private RandomTest(Check c, int run) {
        this.c = c;
        this.run = run;
        this.r = new Random(run);
    }

    public static void main(String[] args) {
        Check c = new Check();
        int runs = args.length > 0 ? Integer.parseInt(args[0]) : RUNS;
        for (int run = 0; run < runs; run++) {
            RandomTest t = new RandomTest(c, run);
            t.train();
            for (int call = 0; call < CALLS; call++) {
                t.any();
            }
        }
        c.end("RandomTest");
    }

    private int up(int most) {
        return r.nextInt(most + 1);
    }

    private int in(int least, int most) {
        return least + r.nextInt(most - least + 1);
    }

    /** A number of a range, at times one beside it. */
    private int about(int least, int most) {
        int k = r.nextInt(40);
        if (k == 0) {
            return least - 1;
        }
        if (k == 1) {
            return most + 1;
        }
        if (k == 2) {
            return r.nextInt();
        }
        return most < least ? least : in(least, most);
    }

    private int aWagon() {
        return about(0, wagons - 1);
    }

    private int bits() {
        return r.nextInt(30) == 0 ? r.nextInt() >> r.nextInt(32) : up((1 << wagons) - 1);
    }

    private void ask(String call, Check.Call got, Check.Call want) {
        c.due("run " + run + ": " + call, Check.answer(got), Check.answer(want));
    }

    private int feed(String text) {
        for (int at = 0; at < text.length(); at += 20) {
            int[] n = new int[5];
            for (int i = 0; i < 20; i++) {
                n[i / 4] = n[i / 4] << 8 | (at + i < text.length() ? text.charAt(at + i) : r.nextInt(256));
            }
            c.due("run " + run + ": feed", x.feed(n[0], n[1], n[2], n[3], n[4]), m.feed(n));
        }
        return text.length();
    }

    /** At times a text is spoilt: a byte is put in, left out, or changed, or the text is cut. */
    private String spoilt(String text, int oneIn) {
        if (r.nextInt(oneIn) != 0) {
            return text;
        }
        StringBuilder b = new StringBuilder(text);
        int times = in(1, 3);
        String signs = " ;[](),+-*/0123456789abcdefghijklmnopqrstuvwxyz\u00ff\t";
        for (int i = 0; i < times; i++) {
            int place = up(b.length());
            char sign = signs.charAt(r.nextInt(signs.length()));
            switch (r.nextInt(4)) {
                case 0 -> b.insert(place, sign);
                case 1 -> {
                    if (place < b.length()) {
                        b.deleteCharAt(place);
                    }
                }
                case 2 -> {
                    if (place < b.length()) {
                        b.setCharAt(place, sign);
                    }
                }
                default -> b.setLength(place);
            }
        }
        return b.toString();
    }

    private String blank() {
        return r.nextInt(12) == 0 ? " " : "";
    }

    private void train() {
        StringBuilder b = new StringBuilder();
        int many = up(8);
        int told = 0;
        for (int i = 0; i < many + (r.nextInt(25) == 0 ? 2 : 0); i++) {
            b.append("wagon ").append(in(1, 6)).append(' ').append(in(1, 9)).append(' ').append(up(5)).append(';');
            told++;
        }
        for (int i = 1; i < told && r.nextBoolean(); i++) {
            b.append("needs ").append(i).append(' ').append(r.nextInt(i)).append(';');
        }
        if (r.nextBoolean()) {
            b.append("hours ").append(in(10, 24)).append(';');
        }
        int clauses = up(r.nextInt(10) == 0 ? 55 : 18);
        for (int i = 0; i < clauses && b.length() < 570; i++) {
            b.append(blank()).append(clause(told)).append(blank()).append(';');
        }
        String text = spoilt(b.toString(), 6);
        if (text.length() > 600) {
            text = text.substring(0, 600);
        }
        tell("train", feed(text));
        wagons = x.told(0);
    }

    private String clause(int told) {
        int last = told - 1;
        switch (r.nextInt(told > 1 ? 16 : 10)) {
            case 0: return "hours " + about(1, 24);
            case 1: return "speed " + about(1, 20);
            case 2: return "frost " + about(0, 16);
            case 3:
            case 4: return "ground " + about(0, 11) + " " + about(0, 9);
            case 5: return "gang " + about(1, 3);
            case 6:
            case 7:
                String[] orders = {"0 1 2", "0 2 1", "1 0 2", "1 2 0", "2 0 1", "2 1 0", "2 0 2"};
                return "voter " + orders[r.nextInt(r.nextInt(20) == 0 ? 7 : 6)];
            case 8: return "well " + about(1, 200);
            case 9: return "well " + in(1, 60);
            case 10:
            case 11:
                int a = r.nextInt(told);
                return a == 0 ? "frost 3" : "needs " + a + " " + r.nextInt(a);
            default:
                int b = in(0, last);
                return "tie " + b + " " + (b + in(1, last)) % told + " " + about(1, 9);
        }
    }

    private void tell(String what, int n) {
        int k = r.nextInt(60) == 0 ? about(0, n) : n;
        switch (what) {
            case "train" -> ask("train " + k, () -> x.train(k), () -> m.train(k));
            case "law" -> ask("law " + k, () -> x.law(k), () -> m.law(k));
            case "work" -> ask("work " + k, () -> x.work(k), () -> m.work(k));
            default -> ask("book " + k, () -> x.book(k), () -> m.book(k));
        }
        ask("fault", x::fault, m::fault);
        ask("bytes", () -> x.count(1), () -> m.count(1));
    }

    private String expr(int depth) {
        StringBuilder b = new StringBuilder(part(depth));
        int more = r.nextInt(3);
        for (int i = 0; i < more; i++) {
            b.append(blank()).append("+-*/".charAt(r.nextInt(4))).append(blank()).append(part(depth));
        }
        return b.toString();
    }

    private String part(int depth) {
        String[] names = {"hours", "weight", "kind", "cell", "ground", "day", "near", "frost"};
        int k = r.nextInt(depth > 7 ? 8 : 12);
        if (k < 3) {
            return Integer.toString(r.nextInt(8) == 0 ? about(0, 999) : up(5));
        }
        if (k < 8) {
            return names[r.nextInt(8)];
        }
        if (k < 10) {
            return "(" + expr(depth + 1) + ")";
        }
        return (k == 10 ? "least" : "most") + blank() + "[" + expr(depth + 1) + "," + expr(depth + 1) + "]";
    }

    private String fit(String text, int most) {
        return text.length() > most ? text.substring(0, most) : text;
    }

    private String steps(int depth, int many) {
        StringBuilder b = new StringBuilder();
        for (int i = 0; i < many; i++) {
            int k = r.nextInt(depth > 7 ? 9 : 11);
            if (k < 4) {
                b.append("lay ").append(aWagon()).append(' ').append(about(0, 11));
            } else if (k < 6) {
                b.append("take ").append(aWagon());
            } else if (k < 7) {
                b.append("fetch ").append(aWagon());
            } else if (k < 9) {
                b.append("day");
            } else {
                int times = r.nextInt(3) == 0 ? about(0, 20) : up(3);
                b.append("again ").append(times).append('[').append(steps(depth + 1, up(3))).append(']');
            }
            b.append(';').append(blank());
        }
        return b.toString();
    }

    /** Wagons by number, so that those which need others are laid too; then some are taken up. */
    private String orderly() {
        StringBuilder b = new StringBuilder();
        int cell = up(11);
        for (int w = 0; w < wagons; w++) {
            if (r.nextInt(4) != 0) {
                cell = (cell + in(1, 3)) % 12;
                b.append(r.nextInt(3) == 0 ? "fetch " + w + ";" : "").append("lay " + w + " " + cell + ";");
            }
        }
        for (int i = up(3); i > 0 && wagons > 0; i--) {
            b.append("take ").append(r.nextInt(wagons)).append(';');
        }
        return b.append(r.nextBoolean() ? "day;" : "").toString();
    }

    /** So many days that the last one, 200, comes into reach; or so many steps that some are left out. */
    private String far() {
        int inner = in(1, 20);
        return "again " + in(5, 20) + "[again " + inner + "[day;];" + blank() + (inner < 5 ? orderly() : "") + "];";
    }

    private String aWork() {
        if (r.nextInt(8) == 0) {
            return far();
        }
        return r.nextBoolean() ? orderly() : steps(0, up(8));
    }

    private String lines() {
        StringBuilder b = new StringBuilder();
        int many = r.nextInt(12) == 0 ? up(10) : up(3);
        int shift = up(11);
        for (int i = 0; i < many; i++) {
            b.append((shift + i * 5) % 12).append(' ').append(r.nextInt(3) == 0 ? about(0, 6) : 6).append(';');
        }
        return b.toString();
    }

    private void any() {
        int k = r.nextInt(100);
        if (k < 1) {
            train();
        } else if (k < 5) {
            tell("law", feed(fit(spoilt(expr(0), 6), 150)));
        } else if (k < 14) {
            tell("work", feed(fit(spoilt(aWork(), 12), 150)));
            ask("refused", () -> x.told(9), () -> m.told(9));
        } else if (k < 18) {
            tell("book", feed(fit(spoilt(lines(), 12), 60)));
        } else if (k < 22) {
            ask("undo", x::undo, m::undo);
        } else if (k < 24) {
            ask("image", x::image, m::image);
        } else if (k < 26) {
            ask("restore", x::restore, m::restore);
        } else if (k < 27) {
            feed("12345");
        } else if (k < 28) {
            for (int what = -1; what < 4; what++) {
                int w = what;
                ask("status " + w, () -> x.status(w), () -> m.status(w));
                ask("count " + w, () -> x.count(w), () -> m.count(w));
            }
        } else if (k < 60) {
            howAllIs(r.nextInt(11));
        } else if (k < 80) {
            whatIsBest(r.nextInt(9));
        } else {
            theRest(r.nextInt(16));
        }
    }

    private void howAllIs(int k) {
        int w = aWagon();
        int cell = about(0, 11);
        int o = aWagon();
        int what = about(0, 9);
        int what6 = about(0, 6);
        switch (k) {
            case 0 -> ask("told " + what, () -> x.told(what), () -> m.told(what));
            case 1 -> ask("wagon " + w + " " + what6, () -> x.wagon(w, what6), () -> m.wagon(w, what6));
            case 2 -> ask("stands " + cell, () -> x.stands(cell), () -> m.stands(cell));
            case 3 -> ask("ground " + cell, () -> x.ground(cell), () -> m.ground(cell));
            case 4 -> ask("tie " + w + " " + o, () -> x.tie(w, o), () -> m.tie(w, o));
            case 5 -> ask("lasts " + w + " " + cell, () -> x.lasts(w, cell), () -> m.lasts(w, cell));
            case 6 -> {
                int[] v = {about(1, 6), about(1, 9), about(0, 5), about(0, 9), about(0, 2), about(0, 1)};
                ask("would", () -> x.would(v[0], v[1], v[2], v[3], v[4], v[5]),
                    () -> m.would(v[0], v[1], v[2], v[3], v[4], v[5]));
            }
            case 7 -> ask("can " + w + " " + cell, () -> x.can(w, cell) ? 1 : 0, () -> m.can(w, cell) ? 1 : 0);
            case 8 -> ask("cost", x::cost, m::cost);
            case 9 -> ask("ties " + w, () -> x.ties(w), () -> m.ties(w));
            default -> ask("behind " + w, () -> x.behind(w), () -> m.behind(w));
        }
    }

    private void whatIsBest(int k) {
        int w = aWagon();
        int few = r.nextInt(8) == 0 ? bits() : bits() & bits();
        int wagonBits = bits();
        int place = aWagon();
        switch (k) {
            case 0 -> ask("best " + few, () -> x.best(few), () -> m.best(few));
            case 1 -> ask("bestAt " + few + " " + w, () -> x.bestAt(few, w), () -> m.bestAt(few, w));
            case 2 -> ask("rather " + w, () -> x.rather(w), () -> m.rather(w));
            case 3 -> ask("load", x::load, m::load);
            case 4 -> ask("loaded " + place, () -> x.loaded(place), () -> m.loaded(place));
            case 5 -> ask("shunts", x::shunts, m::shunts);
            case 6 -> ask("crew " + wagonBits, () -> x.crew(wagonBits), () -> m.crew(wagonBits));
            case 7 -> ask("crewOf " + wagonBits, () -> x.crewOf(wagonBits, w), () -> m.crewOf(wagonBits, w));
            default -> {
                for (int i = 0; i < wagons; i++) {
                    int each = i;
                    ask("rather " + i, () -> x.rather(each), () -> m.rather(each));
                }
            }
        }
    }

    private void theRest(int k) {
        int a = about(0, 2);
        int b = about(0, 2);
        int how = about(0, 1);
        int mile = r.nextBoolean() ? about(0, 250) : up(70);
        int seed = r.nextInt();
        int days = r.nextBoolean() ? about(1, 40) : in(1, 8);
        switch (k) {
            case 0 -> {
                int[] v = {about(0, 60), about(0, 30), about(0, 9)};
                ask("overtakes", () -> x.overtakes(v[0], v[1], v[2]), () -> m.overtakes(v[0], v[1], v[2]));
            }
            case 1, 2 -> {
                int water = about(1, 40);
                ask("way " + mile, () -> x.way(mile, water), () -> m.way(mile, water));
            }
            case 3 -> ask("water " + mile, () -> x.water(mile), () -> m.water(mile));
            case 4 -> ask("prefer " + a + " " + b, () -> x.prefer(a, b), () -> m.prefer(a, b));
            case 5, 6 -> ask("wins " + a + b + how, () -> x.wins(a, b, how), () -> m.wins(a, b, how));
            case 7 -> ask("agendas " + a + how, () -> x.agendas(a, how), () -> m.agendas(a, how));
            case 8 -> ask("beats", x::beats, m::beats);
            case 9 -> ask("fits", x::fits, m::fits);
            case 10 -> ask("look " + how, () -> x.look(how), () -> m.look(how));
            case 11 -> {
                int day = about(0, 11);
                int cell = about(0, 11);
                ask("stood " + day + " " + cell, () -> x.stood(day, cell), () -> m.stood(day, cell));
            }
            case 12 -> {
                int n = about(0, 8);
                ask("mild " + n, () -> x.mild(n, how), () -> m.mild(n, how));
            }
            case 13 -> {
                int n = about(0, 7);
                ask("ahead " + n, () -> x.ahead(n, how), () -> m.ahead(n, how));
            }
            case 14 -> {
                int what = about(0, 3);
                ask("season " + what, () -> x.season(seed, days, what), () -> m.season(seed, days, what));
            }
            default -> {
                int[] v = {r.nextInt(3) == 0 ? about(1, 20) : in(1, 4), about(0, 2), aWagon()};
                ask("span", () -> x.span(seed, v[0], days, v[1], v[2]), () -> m.span(seed, v[0], days, v[1], v[2]));
            }
        }
    }
}
