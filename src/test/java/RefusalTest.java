import java.util.ArrayList;
import java.util.List;

/** Promise 44, and every refused call: which exception, in which order, counted by reason, changing nothing. */
public final class RefusalTest {
    private static final Check c = new Check();
    private static final int[] NO_WAGONS = {-1, 2, 8, Integer.MIN_VALUE, Integer.MAX_VALUE};
    private static final int[] NO_CELLS = {-1, 12, Integer.MIN_VALUE, Integer.MAX_VALUE};

    private record Refusal(String name, Check.Call call) { }

    public static void main(String[] args) {
        TownTrain x = Check.told("wagon 1 1 0;wagon 2 2 1;needs 1 0;gang 1;");
        List<Refusal> elements = elements(x);
        List<Refusal> arguments = arguments(x);
        c.due("none yet", x.status(0) + x.status(1), 0);
        int many = 0;
        for (Refusal r : elements) {
            c.noElement(r.name, r.call);
            many++;
            c.due(r.name + " is counted", x.status(0), many);
            c.due(r.name + " is counted there alone", x.status(1), 0);
        }
        int others = 0;
        for (Refusal r : arguments) {
            c.badArgument(r.name, r.call);
            others++;
            c.due(r.name + " is counted", x.status(1), others);
            c.due(r.name + " is counted there alone", x.status(0), many);
        }
        c.due("status 2", x.status(2), -1);
        c.due("status -1", x.status(-1), -1);
        keptByNothing(x, many, others);
        noWagons();
        edgesAreTaken();
        c.end("RefusalTest");
    }

    private static List<Refusal> elements(TownTrain x) {
        List<Refusal> all = new ArrayList<>();
        for (int w : NO_WAGONS) {
            all.add(new Refusal("wagon " + w, () -> x.wagon(w, 0)));
            all.add(new Refusal("wagon, and a bad what " + w, () -> x.wagon(w, 9)));
            all.add(new Refusal("tie " + w, () -> x.tie(w, 0)));
            all.add(new Refusal("tie to " + w, () -> x.tie(0, w)));
            all.add(new Refusal("lasts " + w, () -> x.lasts(w, 0)));
            all.add(new Refusal("lasts, and a bad cell " + w, () -> x.lasts(w, 12)));
            all.add(new Refusal("can " + w, () -> x.can(w, 0) ? 1 : 0));
            all.add(new Refusal("can, and a bad cell " + w, () -> x.can(w, -1) ? 1 : 0));
            all.add(new Refusal("ties " + w, () -> x.ties(w)));
            all.add(new Refusal("bestAt " + w, () -> x.bestAt(1, w)));
            all.add(new Refusal("bestAt, and bad bits " + w, () -> x.bestAt(4, w)));
            all.add(new Refusal("rather " + w, () -> x.rather(w)));
            all.add(new Refusal("crewOf " + w, () -> x.crewOf(1, w)));
            all.add(new Refusal("crewOf, and bad bits " + w, () -> x.crewOf(4, w)));
            all.add(new Refusal("behind " + w, () -> x.behind(w)));
        }
        return all;
    }

    private static List<Refusal> arguments(TownTrain x) {
        List<Refusal> all = new ArrayList<>();
        for (int cell : NO_CELLS) {
            all.add(new Refusal("stands " + cell, () -> x.stands(cell)));
            all.add(new Refusal("ground " + cell, () -> x.ground(cell)));
            all.add(new Refusal("lasts in " + cell, () -> x.lasts(0, cell)));
            all.add(new Refusal("can in " + cell, () -> x.can(0, cell) ? 1 : 0));
            all.add(new Refusal("stood in " + cell, () -> x.stood(0, cell)));
            all.add(new Refusal("stood on " + cell, () -> x.stood(cell, 0)));
            all.add(new Refusal("told " + cell, () -> x.told(cell)));
            all.add(new Refusal("wagon what " + cell, () -> x.wagon(0, cell)));
            all.add(new Refusal("best " + cell, () -> x.best(cell)));
            all.add(new Refusal("bestAt " + cell, () -> x.bestAt(cell, 0)));
            all.add(new Refusal("crew " + cell, () -> x.crew(cell)));
            all.add(new Refusal("crewOf " + cell, () -> x.crewOf(cell, 0)));
            all.add(new Refusal("span wagon " + cell, () -> x.span(1, 1, 1, 0, cell)));
            all.add(new Refusal("loaded " + cell, () -> x.loaded(cell)));
            all.add(new Refusal("prefer " + cell, () -> x.prefer(cell, 0)));
            all.add(new Refusal("wins " + cell, () -> x.wins(0, cell, 0)));
            all.add(new Refusal("agendas " + cell, () -> x.agendas(cell, 0)));
            all.add(new Refusal("look " + cell, () -> x.look(cell)));
            all.add(new Refusal("mild " + cell, () -> x.mild(cell, 0)));
            all.add(new Refusal("ahead " + cell, () -> x.ahead(cell, 0)));
            all.add(new Refusal("season what " + cell, () -> x.season(1, 1, cell)));
            all.add(new Refusal("span what " + cell, () -> x.span(1, 1, 1, cell, 0)));
            all.add(new Refusal("train " + cell, () -> x.train(cell)));
            all.add(new Refusal("law " + cell, () -> x.law(cell)));
            all.add(new Refusal("work " + cell, () -> x.work(cell)));
            all.add(new Refusal("book " + cell, () -> x.book(cell)));
        }
        int[][] would = {{0, 1, 0, 0, 0, 0}, {7, 1, 0, 0, 0, 0}, {1, 0, 0, 0, 0, 0}, {1, 10, 0, 0, 0, 0},
            {1, 1, -1, 0, 0, 0}, {1, 1, 6, 0, 0, 0}, {1, 1, 0, -1, 0, 0}, {1, 1, 0, 10, 0, 0},
            {1, 1, 0, 0, -1, 0}, {1, 1, 0, 0, 3, 0}, {1, 1, 0, 0, 0, -1}, {1, 1, 0, 0, 0, 2}};
        for (int[] w : would) {
            all.add(new Refusal("would " + w[0] + w[1] + w[2] + w[3] + w[4] + w[5],
                () -> x.would(w[0], w[1], w[2], w[3], w[4], w[5])));
        }
        all.add(new Refusal("told 10", () -> x.told(10)));
        all.add(new Refusal("wagon 7", () -> x.wagon(1, 7)));
        all.add(new Refusal("best 4", () -> x.best(4)));
        all.add(new Refusal("crew 4", () -> x.crew(4)));
        all.add(new Refusal("loaded 2", () -> x.loaded(2)));
        all.add(new Refusal("two things, counted once", () -> x.season(1, 0, 9)));
        return all;
    }

    /** No image, no undo, no new train changes the counts. */
    private static void keptByNothing(TownTrain x, int many, int others) {
        x.image();
        c.noElement("behind", () -> x.behind(2));
        x.restore();
        c.due("no image keeps it", x.status(0), many + 1);
        Check.work(x, "day;");
        c.badArgument("told", () -> x.told(-1));
        x.undo();
        c.due("no undo takes it back", x.status(1), others + 1);
        Check.train(x, "");
        c.due("no train either", x.status(0), many + 1);
        c.due("no train either", x.status(1), others + 1);
        c.due("-1 and the like are no refusals", x.undo() + x.restore(), -2);
        c.due("not counted", x.status(1), others + 1);
    }

    private static void noWagons() {
        TownTrain x = new TownTrain();
        c.noElement("tie", () -> x.tie(0, 0));
        c.noElement("wagon", () -> x.wagon(0, 0));
        c.badArgument("best", () -> x.best(1));
        c.badArgument("crew", () -> x.crew(1));
        c.badArgument("loaded", () -> x.loaded(0));
        c.badArgument("span", () -> x.span(1, 1, 1, 2, 0));
        c.due("best of none", x.best(0), 0);
        c.due("crew of none", x.crew(0), 0);
    }

    private static void edgesAreTaken() {
        TownTrain x = Check.told("wagon 1 1 0;wagon 2 2 1;");
        x.told(9);
        x.wagon(1, 6);
        x.stands(11);
        x.ground(11);
        x.lasts(1, 11);
        x.would(6, 9, 5, 9, 2, 1);
        x.would(1, 1, 0, 0, 0, 0);
        x.can(1, 11);
        x.best(3);
        x.bestAt(3, 1);
        x.loaded(1);
        x.crew(3);
        x.crewOf(3, 1);
        x.overtakes(60, 30, 9);
        x.way(250, 40);
        x.water(250);
        x.prefer(2, 1);
        x.wins(2, 1, 1);
        x.agendas(2, 1);
        x.look(1);
        x.stood(11, 11);
        x.mild(8, 1);
        x.ahead(7, 1);
        x.season(Integer.MIN_VALUE, 40, 3);
        x.span(Integer.MAX_VALUE, 20, 40, 2, 1);
        c.due("none refused", x.status(0) + x.status(1), 0);
    }
}
