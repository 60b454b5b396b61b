/** Promises 12, 13, 17 to 26: ground, ties, what a town costs, and what is best. */
public final class BestTest {
    private static final Check c = new Check();

    public static void main(String[] args) {
        groundAndTies();
        costs();
        best();
        bestOfAlike();
        bestOfFive();
        rather();
        load();
        crew();
        crewOfAlike();
        newTrainForgets();
        c.end("BestTest");
    }

    private static void groundAndTies() {
        TownTrain x = Check.told("wagon 1 1 0;wagon 1 1 0;wagon 1 1 0;tie 0 1 3;tie 1 0 4;tie 2 1 9;ground 3 4;"
            + "ground 3 2;ground 11 9;");
        c.due("last ground counts", x.ground(3), 2);
        c.due("ground 11", x.ground(11), 9);
        c.due("ground without", x.ground(0), 0);
        c.due("ties add up", x.tie(0, 1), 7);
        c.due("both ways", x.tie(1, 0), 7);
        c.due("tie", x.tie(1, 2), 9);
        c.due("none", x.tie(0, 2), 0);
        c.due("itself", x.tie(1, 1), 0);
    }

    private static void costs() {
        TownTrain x = Check.told("wagon 1 1 0;wagon 1 1 0;wagon 1 1 0;tie 0 1 3;tie 1 2 2;ground 3 4;ground 9 5;"
            + "hours 24;");
        c.due("empty", x.cost(), 0);
        c.due("ties of none", x.ties(0), 0);
        Check.work(x, "lay 0 3;");
        c.due("one", x.cost(), 4);
        c.due("no tie", x.ties(0), 0);
        Check.work(x, "lay 1 9;lay 2 0;");
        c.due("three", x.cost(), 4 + 5 + 3 * 6 + 2 * 9);
        c.due("ties 0", x.ties(0), 18);
        c.due("ties 1", x.ties(1), 36);
        c.due("ties 2", x.ties(2), 18);
        Check.work(x, "day;");
        c.due("left ones cost nothing", x.cost(), 0);
        c.due("nor their ties", x.ties(1), 0);
    }

    private static void best() {
        TownTrain x = Check.told("wagon 1 1 0;wagon 1 1 0;wagon 1 1 0;tie 0 1 3;tie 0 2 1;ground 0 6;ground 2 3;");
        c.due("none", x.best(0), 0);
        c.due("of none", x.bestAt(0, 1), -1);
        c.due("one", x.best(1), 0);
        c.due("first free cell", x.bestAt(1, 0), 1);
        c.due("the 3rd alone", x.bestAt(4, 2), 1);
        c.due("two untied", x.best(6), 0);
        c.due("the first", x.bestAt(6, 1), 1);
        c.due("the second", x.bestAt(6, 2), 3);
        c.due("not told", x.bestAt(6, 0), -1);
        c.due("tied", x.best(7), 4);
        c.due("in the middle", x.bestAt(7, 0), 4);
        c.due("left of it", x.bestAt(7, 1), 3);
        c.due("right of it", x.bestAt(7, 2), 5);
    }

    /** Hard ground all over: a farther cell may be dearer than the ground between. */
    private static void bestOfAlike() {
        TownTrain x = Check.told("wagon 1 1 0;wagon 1 1 0;tie 0 1 2;ground 0 1;ground 1 3;ground 2 3;ground 3 1;"
            + "ground 4 9;ground 5 9;ground 6 9;ground 7 9;ground 8 9;ground 9 9;ground 10 9;ground 11 9;");
        c.due("alike towns", x.best(3), 6);
        c.due("the least cell first", x.bestAt(3, 0), 0);
        c.due("then the other", x.bestAt(3, 1), 1);
        TownTrain y = Check.told("wagon 1 1 0;wagon 1 1 0;tie 0 1 1;ground 0 0;ground 1 3;ground 2 0;ground 3 9;"
            + "ground 4 9;ground 5 9;ground 6 9;ground 7 9;ground 8 9;ground 9 9;ground 10 9;ground 11 9;");
        c.due("one between", y.best(3), 2);
        c.due("0", y.bestAt(3, 0), 0);
        c.due("1", y.bestAt(3, 1), 2);
    }

    private static void bestOfFive() {
        TownTrain x = Check.told("wagon 1 1 0;".repeat(6) + "tie 0 1 1;tie 1 2 1;tie 2 3 1;tie 3 4 1;tie 4 0 1;");
        // a ring of five: eight, whichever way
        c.due("ring", x.best(31), 8);
        int[] want = {0, 1, 2, 4, 3};
        int[] alike = {0, 1, 2, 3, 4};
        for (int w = 0; w < 5; w++) {
            c.due("ring at " + w, x.bestAt(31, w), alike[w]);
        }
        TownTrain y = Check.told("wagon 1 1 0;".repeat(8) + "tie 0 1 1;tie 1 2 1;tie 2 4 9;tie 4 3 9;tie 3 7 9;");
        c.due("chain", y.best(31), 1 + 1 + 9 + 9);
        for (int w = 0; w < 5; w++) {
            c.due("chain at " + w, y.bestAt(31, w), want[w]);
        }
        c.due("others", y.best(0b10011000), 18);
        c.due("others at 3", y.bestAt(0b10011000, 3), 1);
        c.due("others at 4", y.bestAt(0b10011000, 4), 0);
        c.due("others at 7", y.bestAt(0b10011000, 7), 2);
        c.badArgument("six", () -> y.best(63));
        c.badArgument("six for one", () -> y.bestAt(63, 0));
        c.badArgument("no such", () -> y.best(256));
        c.badArgument("below 0", () -> y.best(-1));
        c.noElement("no such wagon comes first", () -> y.bestAt(256, 8));
    }

    private static void rather() {
        TownTrain x = Check.told("wagon 1 1 0;wagon 1 1 0;wagon 1 1 0;tie 0 1 3;ground 5 4;ground 3 2;hours 24;");
        c.due("on the train", x.rather(0), -1);
        Check.work(x, "lay 0 5;lay 1 9;");
        c.due("beside it", x.rather(0), 8);
        c.due("or beside the other", x.rather(1), 4);
        Check.work(x, "lay 2 8;");
        c.due("the cell is taken", x.rather(0), 10);
        c.due("no better one", x.rather(2), -1);
        Check.work(x, "day;");
        c.due("left", x.rather(0), -1);
        TownTrain y = Check.told("wagon 1 1 0;ground 3 2;ground 0 1;ground 1 1;");
        Check.work(y, "lay 0 0;");
        c.due("the least of alike ones", y.rather(0), 2);
    }

    private static void load() {
        TownTrain x = Check.told("wagon 1 5 0;wagon 1 9 0;wagon 1 2 0;wagon 1 4 0;needs 2 0;needs 3 1;");
        c.due("sum", x.load(), 39);
        int[] want = {1, 0, 3, 2};
        for (int place = 0; place < 4; place++) {
            c.due("place " + place, x.loaded(place), want[place]);
        }
        c.due("shunts", x.shunts(), 2);
        c.badArgument("place 4", () -> x.loaded(4));
        c.badArgument("place -1", () -> x.loaded(-1));
        TownTrain y = Check.told("wagon 1 3 0;".repeat(8));
        c.due("alike", y.load(), 3 * 36);
        for (int place = 0; place < 8; place++) {
            c.due("alike place", y.loaded(place), place);
        }
        c.due("no shunts", y.shunts(), 0);
        TownTrain z = Check.told("wagon 1 1 0;wagon 1 2 0;wagon 1 3 0;wagon 1 4 0;wagon 1 5 0;wagon 1 6 0;"
            + "wagon 1 7 0;wagon 1 8 0;");
        c.due("the other way round", z.load(), 8 + 14 + 18 + 20 + 20 + 18 + 14 + 8);
        c.due("all pairs", z.shunts(), 28);
        TownTrain u = Check.told("wagon 1 1 0;wagon 1 9 0;wagon 1 5 0;needs 1 0;");
        // 0 1 2: 1 + 18 + 15; 2 0 1: 5 + 2 + 27; alike, the first is told
        c.due("needs", u.load(), 34);
        c.due("alike rows", u.loaded(0), 0);
        TownTrain v = new TownTrain();
        c.due("none", v.load(), 0);
        c.due("none", v.shunts(), 0);
    }

    private static void crew() {
        TownTrain x = Check.told("wagon 5 1 0;wagon 1 1 0;wagon 3 1 0;gang 2;");
        c.due("one gang", x.crew(1), 3);
        c.due("its hours together, begun ones whole", x.crew(7), 5);
        c.due("5 and 1", x.crew(3), 3);
        c.due("none told", x.crew(0), 0);
        c.due("not told", x.crewOf(3, 2), -1);
        c.due("told", x.crewOf(3, 1), 0);
        TownTrain y = Check.told("wagon 6 1 0;wagon 6 1 0;wagon 6 1 0;wagon 6 1 0;wagon 6 1 0;wagon 6 1 0;"
            + "wagon 6 1 0;wagon 6 1 0;gang 1;");
        c.due("the longest", y.crew(255), 48);
        TownTrain z = Check.told("wagon 2 1 0;");
        c.due("no gangs", z.crew(1), -1);
        c.due("no gangs, none told", z.crew(0), 0);
        c.due("no gang of it", z.crewOf(1, 0), -1);
        c.badArgument("no such", () -> z.crew(2));
        c.noElement("no such wagon comes first", () -> z.crewOf(2, 1));
        c.badArgument("no such bits", () -> z.crewOf(2, 0));
    }

    private static void crewOfAlike() {
        TownTrain x = Check.told("wagon 3 1 0;wagon 3 1 0;wagon 2 1 0;wagon 2 1 0;wagon 2 1 0;gang 1;gang 1;");
        c.due("halves", x.crew(31), 6);
        int[] want = {0, 0, 1, 1, 1};
        for (int w = 0; w < 5; w++) {
            c.due("halves of " + w, x.crewOf(31, w), want[w]);
        }
        TownTrain y = Check.told("wagon 1 1 0;wagon 6 1 0;wagon 1 1 0;gang 1;gang 3;gang 1;");
        // the 6 takes 2 by the second gang; the others may be with the first for as long
        c.due("quick one", y.crew(7), 2);
        int[] gangs = {0, 1, 0};
        for (int w = 0; w < 3; w++) {
            c.due("quick one: " + w, y.crewOf(7, w), gangs[w]);
        }
        TownTrain z = Check.told("wagon 4 1 0;wagon 4 1 0;wagon 4 1 0;wagon 4 1 0;gang 1;gang 1;gang 2;gang 3;");
        c.due("four gangs", z.crew(15), 4);
        int[] four = {0, 1, 2, 2};
        for (int w = 0; w < 4; w++) {
            c.due("four gangs: " + w, z.crewOf(15, w), four[w]);
        }
    }

    /** What was found for one train must not be told of the next. */
    private static void newTrainForgets() {
        TownTrain x = Check.told("wagon 1 1 0;wagon 2 2 0;gang 1;ground 0 5;");
        c.due("best", x.bestAt(1, 0), 1);
        c.due("load", x.load(), 4);
        c.due("crew", x.crew(3), 3);
        Check.train(x, "wagon 3 4 0;wagon 2 1 0;gang 2;ground 1 3;");
        c.due("best anew", x.bestAt(1, 0), 0);
        c.due("load anew", x.load(), 6);
        c.due("crew anew", x.crew(3), 3);
        c.due("crew anew of one", x.crew(1), 2);
        Check.train(x, "wagon 3 4 0;ground 0 3;bad");
        c.due("a bad train changes nothing", x.bestAt(1, 0), 0);
    }
}
