/** Promises 28 to 41 at their edges: a test for each piece of the document that names one. */
public final class EdgesOfAskingTest {
    private static final Check c = new Check();
    private static final String ONE = "wagon 1 1 0;";

    public static void main(String[] args) {
        overtakes();
        overtakesRefused();
        way();
        wayByWells();
        water();
        prefer();
        wins();
        foreseen();
        agendas();
        beats();
        fits();
        look();
        stood();
        mild();
        ahead();
        season();
        seasonLays();
        seasonDraws();
        seasonFromNow();
        span();
        spanRefused();
        c.end("EdgesOfAskingTest", 28, 29, 30, 31, 32, 33, 34, 35, 36, 37, 38, 39, 40, 41);
    }

    private static void overtakes() {
        c.test(28, "0, if d is 0", () -> {
            TownTrain x = Check.told("speed 20;");
            c.due("he does not walk", x.overtakes(0, 0, 0), 0);
            c.due("he is slow", x.overtakes(1, 0, 9), 0);
            c.due("he is quick", x.overtakes(60, 0, 1), 0);
        });
        c.test(28, "(at the end of one, as far as the train or farther", () -> {
            TownTrain x = Check.told("speed 5;");
            c.due("just as far", x.overtakes(10, 1, 0), 1);
            c.due("one mile less", x.overtakes(9, 1, 0), 2);
            c.due("farther", x.overtakes(60, 1, 0), 1);
            c.due("d by V since", x.overtakes(10, 30, 0), 30);
        });
        c.test(28, "and went d by V since", () -> {
            c.due("1 by 1", Check.told("speed 1;").overtakes(2, 1, 0), 1);
            c.due("30 by 1", Check.told("speed 1;").overtakes(2, 30, 0), 30);
            c.due("1 by 20", Check.told("speed 20;").overtakes(40, 1, 0), 1);
            c.due("30 by 20", Check.told("speed 20;").overtakes(60, 30, 0), 15);
            TownTrain x = Check.told("speed 5;");
            Check.work(x, "day;day;day;");
            c.due("whatever MILE it is now", x.overtakes(10, 1, 0), 1);
        });
        c.test(28, "rests each r-th DAY (of those from now on", () -> {
            TownTrain x = Check.told("speed 5;");
            c.due("on the second", x.overtakes(5, 1, 2), 2);
            c.due("on the ninth", x.overtakes(5, 1, 9), 9);
            c.due("each DAY", x.overtakes(5, 1, 1), 1);
            c.due("each DAY, of the slowest", x.overtakes(1, 30, 1), 150);
            c.due("each third", x.overtakes(5, 3, 3), 9);
        });
        c.test(28, "0: never)", () -> {
            TownTrain x = Check.told("speed 5;");
            c.due("as quick as the train", x.overtakes(5, 1, 0), -1);
            c.due("quicker by one", x.overtakes(6, 1, 0), 5);
        });
        c.test(28, "NONE: in none of 400", () -> {
            TownTrain x = Check.told("speed 20;");
            c.due("the 400th", x.overtakes(21, 20, 0), 400);
            c.due("not a 420th", x.overtakes(21, 21, 0), -1);
            c.due("nor a 405th", Check.told("speed 15;").overtakes(16, 27, 0), -1);
            c.due("he does not walk", x.overtakes(0, 1, 1), -1);
            c.due("he goes back", x.overtakes(0, 30, 0), -1);
            // 1 mile a day to the train that rests: 400 miles are 400 days, and 420 are too many
            c.due("20 DAYS at rest", x.overtakes(1, 20, 1), 400);
            c.due("21 DAYS at rest", x.overtakes(1, 21, 1), -1);
        });
    }

    private static void overtakesRefused() {
        c.test(28, "(v 0 to 60", () -> c.range("v", v -> new TownTrain().overtakes(v, 1, 0), 0, 60));
        c.test(28, "d 0 to 30", () -> c.range("d", d -> new TownTrain().overtakes(6, d, 0), 0, 30));
        c.test(28, "r 0 to 9)", () -> c.range("r", r -> new TownTrain().overtakes(6, 1, r), 0, 9));
        c.test(28, "also if d is 0", () -> {
            TownTrain x = new TownTrain();
            c.badArgument("v", () -> x.overtakes(61, 0, 0));
            c.badArgument("r", () -> x.overtakes(0, 0, 10));
        });
    }

    private static void way() {
        c.test(29, "(at MILE 0, too, at first", () -> {
            TownTrain x = Check.told("speed 5;");
            c.due("it is there", x.way(0, 1), 0);
            c.due("one DAY", x.way(1, 1), 1);
            c.due("as far as one DAY goes", x.way(5, 1), 1);
            c.due("one MILE more", x.way(6, 1), -1);
            c.due("40 DAYS", x.way(200, 40), 40);
            c.due("41 were too many", x.way(201, 40), -1);
        });
        c.test(29, "from MILE 0, wherever the train is now", () -> {
            TownTrain x = Check.told("speed 5;");
            Check.work(x, "day;day;");
            c.due("MILE 10", x.way(10, 2), 2);
            c.due("MILE 15", x.way(15, 2), -1);
        });
        c.test(29, "in a DAY the train goes 1 to V MILES (0 too)", () -> {
            TownTrain slow = Check.told("speed 1;");
            c.due("one a DAY", slow.way(40, 40), 40);
            c.due("too far", slow.way(41, 40), -1);
            TownTrain quick = Check.told("speed 20;");
            c.due("the last MILE there is", quick.way(250, 13), 13);
            c.due("one DAY less", quick.way(250, 12), -1);
            c.due("less than V", quick.way(3, 1), 1);
        });
        c.test(29, "WAY to a MILE (0 to 250)", () -> c.range("mile", m -> new TownTrain().way(m, 40), 0, 250));
        c.test(29, "by k (1 to 40)", () -> c.range("k", k -> new TownTrain().way(9, k), 1, 40));
        c.test(29, "also at MILE 0", () -> {
            TownTrain x = new TownTrain();
            c.badArgument("k 0", () -> x.way(0, 0));
            c.badArgument("k 41", () -> x.way(0, 41));
        });
    }

    private static void wayByWells() {
        c.test(29, "at the end of a DAY at a WELL it has water for k DAYS more", () -> {
            TownTrain x = Check.told("well 10;");
            c.due("to the well", x.way(10, 2), 2);
            c.due("from the well", x.way(20, 2), 4);
            c.due("one MILE more", x.way(21, 2), -1);
            c.due("by one DAY more of water", x.way(21, 3), 5);
            c.due("dry ahead of the well", x.way(20, 1), -1);
        });
        c.test(29, "at the end of a DAY at a WELL: a DAY is cut short for it", () -> {
            TownTrain x = Check.told("well 6;");
            c.due("past it", x.way(15, 3), 3);
            c.due("two DAYS to it, two from it", x.way(15, 2), 4);
            TownTrain y = Check.told("well 3;");
            c.due("one DAY to it", y.way(8, 1), 2);
            c.due("too far behind it", y.way(9, 1), -1);
        });
        c.test(29, "those are DAYS in which it can go", () -> {
            TownTrain x = Check.told("speed 5;well 10;");
            c.due("the last of its DAYS ends at the well", x.way(10, 2), 2);
            c.due("the last of its DAYS ends at m", x.way(25, 3), 5);
            c.due("one MILE farther it were one more", x.way(26, 3), -1);
        });
        c.test(29, "the fewest DAYS to be at m", () -> {
            // by 5 it is 1 and 3, by 6 2 and 2, by 11 3 and 1; by 4 and 9 1, 1 and 2
            TownTrain x = Check.told("well 6;well 11;well 5;");
            c.due("all ways are alike", x.way(16, 2), 4);
            c.due("straight", x.way(16, 4), 4);
            TownTrain y = Check.told("well 4;well 9;");
            c.due("by both", y.way(14, 1), 3);
            c.due("by one", y.way(13, 2), 3);
        });
        c.test(29, "a WELL at m, one behind m, the last MILE of a WELL", () -> {
            TownTrain x = Check.told("well 7;");
            c.due("at m", x.way(7, 2), 2);
            c.due("at m, too far", x.way(7, 1), -1);
            c.due("behind m", x.way(6, 1), -1);
            TownTrain y = Check.told("speed 20;well 200;well 100;well 1;");
            c.due("from the last", y.way(250, 5), 13);
            c.due("dry", y.way(250, 4), -1);
            c.due("the first MILE", Check.told("well 1;").way(6, 1), 2);
        });
        c.test(29, "eight WELLS, told in any order", () -> {
            TownTrain x = Check.told("well 35;well 40;well 5;well 10;well 15;well 20;well 25;well 30;");
            c.due("from one to the next", x.way(45, 1), 9);
            c.due("no ninth", x.way(46, 1), -1);
            TownTrain y = Check.told("well 40;well 35;well 30;well 25;well 20;well 15;well 10;well 5;");
            c.due("from the last back", y.way(45, 1), 9);
        });
    }

    private static void water() {
        c.test(30, "The least k (1 to 40) by which there is a WAY; NONE", () -> {
            TownTrain x = Check.told("speed 5;");
            c.due("MILE 0", x.water(0), 1);
            c.due("MILE 5", x.water(5), 1);
            c.due("MILE 6", x.water(6), 2);
            c.due("MILE 200", x.water(200), 40);
            c.due("MILE 201", x.water(201), -1);
            TownTrain y = Check.told("well 100;");
            c.due("the longer half", y.water(201), 21);
            c.due("the first half", y.water(150), 20);
            TownTrain z = Check.told("speed 1;well 40;well 80;well 120;well 160;well 200;");
            c.due("by 40", z.water(240), 40);
            c.due("by none", z.water(241), -1);
            c.due("the last MILE by none", z.water(250), -1);
        });
        c.test(30, "IllegalArgumentException: no such MILE", () -> c.range("water", m -> new TownTrain().water(m), 0, 250));
    }

    private static void prefer() {
        c.test(31, "How many VOTERS like one PLAN (0 to 2) better than another", () -> {
            TownTrain x = Check.told("voter 0 1 2;".repeat(5) + "voter 2 1 0;".repeat(4));
            c.due("0 and 2", x.prefer(0, 2), 5);
            c.due("2 and 0", x.prefer(2, 0), 4);
            c.due("1 and 0", x.prefer(1, 0), 4);
            TownTrain all = Check.told("voter 0 1 2;".repeat(9));
            c.due("all nine", all.prefer(0, 1), 9);
            c.due("none of nine", all.prefer(1, 0), 0);
            c.due("no voters", new TownTrain().prefer(0, 1), 0);
        });
        c.test(31, "PLAN (0 to 2)", () -> {
            TownTrain x = Check.told("voter 0 1 2;");
            c.range("plan", p -> x.prefer(p, 1), 0, 2);
            c.range("other", p -> x.prefer(1, p), 0, 2);
        });
        c.test(31, "IllegalArgumentException: one PLAN, too", () -> {
            TownTrain x = Check.told("voter 0 1 2;");
            for (int plan = 0; plan < 3; plan++) {
                int one = plan;
                c.badArgument("plan " + plan, () -> x.prefer(one, one));
            }
            c.due("counted", x.status(1), 3);
        });
    }

    private static void wins() {
        c.test(32, "of two PLANS the one that more VOTERS like better", () -> {
            TownTrain x = Check.told("voter 0 1 2;voter 1 2 0;voter 2 0 1;");
            c.due("0 wins over 1, 2 over 0", x.wins(0, 1, 0), 2);
            c.due("1 wins over 2, 0 over 1", x.wins(1, 2, 0), 0);
            c.due("2 wins over 0, 1 over 2", x.wins(2, 0, 0), 1);
            TownTrain nine = Check.told("voter 0 1 2;".repeat(4) + "voter 2 1 0;".repeat(5));
            c.due("by one VOTER", nine.wins(0, 1, 0), 2);
        });
        c.test(32, "alike: the one told first", () -> {
            TownTrain x = Check.told("voter 0 1 2;voter 2 1 0;");
            for (int how = 0; how < 2; how++) {
                for (int a = 0; a < 3; a++) {
                    for (int b = 0; b < 3; b++) {
                        if (a != b) {
                            c.due("agenda " + a + b + " by " + how, x.wins(a, b, how), a);
                        }
                    }
                }
            }
            TownTrain none = new TownTrain();
            c.due("no VOTERS", none.wins(2, 1, 0), 2);
            c.due("no VOTERS, foreseen", none.wins(1, 0, 1), 1);
        });
        c.test(32, "the first against the second, the winner against the third", () -> {
            // 0 wins over 1, 1 over 2, 2 over 0: the third wins, whatever the order of the first two
            TownTrain x = Check.told("voter 0 1 2;voter 1 2 0;voter 2 0 1;");
            for (int a = 0; a < 3; a++) {
                for (int b = 0; b < 3; b++) {
                    if (a != b) {
                        c.due("agenda " + a + b, x.wins(a, b, 0), 3 - a - b);
                    }
                }
            }
        });
        c.test(32, "the winner against the third: alike, the winner was told first", () -> {
            // 1 wins over 0; 1 and 2 are alike
            TownTrain x = Check.told("voter 1 0 2;voter 2 1 0;");
            c.due("sincere", x.wins(0, 1, 0), 1);
            c.due("foreseen", x.wins(0, 1, 1), 1);
        });
        c.test(32, "IllegalArgumentException: a is b, too", () -> {
            TownTrain x = Check.told("voter 0 1 2;");
            c.range("a", p -> x.wins(p, 1, 0), 0, 2);
            c.range("b", p -> x.wins(1, p, 0), 0, 2);
            for (int plan = 0; plan < 3; plan++) {
                int one = plan;
                c.badArgument("plan " + plan, () -> x.wins(one, one, 0));
                c.badArgument("foreseen " + plan, () -> x.wins(one, one, 1));
            }
        });
        c.test(32, "SINCERE (how 0), FORESEEN (1)", () -> c.range("how", how -> new TownTrain().wins(0, 1, how), 0, 1));
    }

    private static void foreseen() {
        c.test(32, "each likes that one better of which he likes better what will have won in the end", () -> {
            TownTrain x = Check.told("voter 0 1 2;voter 1 2 0;voter 2 0 1;");
            // 0 would lose to 2, 1 would win over it: 1 is liked better than 2 by two
            c.due("0 and 1 first", x.wins(0, 1, 1), 1);
            c.due("1 and 0 first", x.wins(1, 0, 1), 1);
            c.due("1 and 2 first", x.wins(1, 2, 1), 2);
            c.due("2 and 0 first", x.wins(2, 0, 1), 0);
        });
        c.test(32, "both ways end alike: the one told first, and the end is the same", () -> {
            TownTrain x = Check.told("voter 2 0 1;voter 2 1 0;voter 0 2 1;");
            c.due("the third wins anyway", x.wins(0, 1, 1), 2);
            c.due("the other way", x.wins(1, 0, 1), 2);
        });
        c.test(32, "alike in the first vote as it is foreseen", () -> {
            // 0 and 2 are alike, 1 and 2 are alike, 0 wins over 1
            TownTrain x = Check.told("voter 0 1 2;voter 2 0 1;");
            c.due("1 would lose to 0, 2 would stay: alike, so 1, and then 0", x.wins(1, 2, 1), 0);
            c.due("2 first", x.wins(2, 1, 1), 2);
        });
    }

    private static void agendas() {
        c.test(33, "By how many of the six AGENDAS a PLAN wins", () -> {
            TownTrain all = Check.told("voter 1 0 2;");
            c.row("one VOTER", plan -> all.agendas(plan, 0), 0, 6, 0);
            c.row("one VOTER, foreseen", plan -> all.agendas(plan, 1), 0, 6, 0);
            TownTrain none = new TownTrain();
            c.row("no VOTERS", plan -> none.agendas(plan, 0), 2, 2, 2);
            c.row("no VOTERS, foreseen", plan -> none.agendas(plan, 1), 2, 2, 2);
            TownTrain ring = Check.told("voter 0 1 2;voter 1 2 0;voter 2 0 1;");
            c.row("a ring", plan -> ring.agendas(plan, 0), 2, 2, 2);
            c.row("a ring, foreseen", plan -> ring.agendas(plan, 1), 2, 2, 2);
        });
        c.test(33, "(how as above)", () -> {
            TownTrain x = Check.told("voter 0 1 2;");
            c.range("plan", plan -> x.agendas(plan, 0), 0, 2);
            c.range("how", how -> x.agendas(0, how), 0, 1);
        });
    }

    private static void beats() {
        c.test(34, "The PLAN that more VOTERS like better than each other one; NONE", () -> {
            c.due("no VOTERS", new TownTrain().beats(), -1);
            c.due("the first", Check.told("voter 0 1 2;").beats(), 0);
            c.due("the last", Check.told("voter 2 1 0;").beats(), 2);
            c.due("a ring", Check.told("voter 0 1 2;voter 1 2 0;voter 2 0 1;").beats(), -1);
            c.due("by one of nine", Check.told("voter 1 0 2;".repeat(5) + "voter 2 0 1;".repeat(4)).beats(), 1);
        });
        c.test(34, "alike with one other is not more", () -> {
            c.due("0 and 1 are alike", Check.told("voter 0 1 2;voter 1 0 2;").beats(), -1);
            c.due("0 wins over 1, alike with 2", Check.told("voter 0 1 2;voter 2 0 1;").beats(), -1);
        });
        c.test(34, "a middle one that few like most", () -> {
            c.due("1", Check.told("voter 0 1 2;voter 2 1 0;voter 1 0 2;").beats(), 1);
        });
    }

    private static void fits() {
        c.test(35, "DAYS (of those noted)", () -> {
            TownTrain x = Check.told(ONE);
            c.due("none noted", x.fits(), 0);
            Check.work(x, "lay 0 0;");
            c.due("now is not noted", x.fits(), 0);
            Check.work(x, "day;");
            c.due("DAY 0 the lowest", x.fits(), 1);
            Check.work(x, "again 10[day;];");
            c.due("eleven", x.fits(), 2047);
            Check.work(x, "day;");
            c.due("twelve", x.fits(), 4095);
            Check.work(x, "day;");
            c.due("no thirteenth", x.fits(), 4095);
            x.undo();
            x.undo();
            c.due("undone ones are not noted", x.fits(), 2047);
        });
        c.test(35, "FITS, as bits (DAY 0 the lowest)", () -> {
            TownTrain x = Check.told("wagon 1 1 3;hours 24;speed 1;");
            Check.book(x, "7 3;");
            Check.work(x, "lay 0 7;day;");
            c.due("DAY 0", x.fits(), 1);
            Check.work(x, "again 10[day;];");
            c.due("not those behind", x.fits(), 1);
            Check.work(x, "fetch 0;lay 0 7;day;");
            c.due("DAY 11", x.fits(), 1 + 2048);
            Check.work(x, "fetch 0;lay 0 7;day;");
            c.due("DAY 12 is not noted", x.fits(), 1 + 2048);
        });
        c.test(35, "on which the TOWN was so by all lines of the BOOK", () -> {
            TownTrain x = Check.told("wagon 1 1 0;wagon 1 1 5;hours 24;");
            Check.work(x, "lay 0 0;lay 1 11;day;fetch 0;lay 0 0;day;fetch 1;lay 1 11;day;day;");
            c.due("no lines", x.fits(), 15);
            Check.book(x, "0 0;");
            c.due("the first cell", x.fits(), 3);
            Check.book(x, "0 0;11 5;");
            c.due("both", x.fits(), 1);
            Check.book(x, "0 6;11 6;");
            c.due("neither", x.fits(), 8);
            Check.book(x, "0 5;");
            c.due("none", x.fits(), 0);
            Check.book(x, "1 6;2 6;3 6;4 6;5 6;6 6;7 6;11 5;");
            c.due("eight lines", x.fits(), 5);
        });
    }

    private static void look() {
        c.test(36, "the CELL in no line by which, whatever stood there, fewest of these are left at the worst", () -> {
            TownTrain x = Check.told("wagon 1 1 0;wagon 1 1 1;hours 24;");
            Check.work(x, "lay 0 11;lay 1 10;day;fetch 0;fetch 1;lay 1 11;day;day;");
            // in 11: 0, 1, nothing; in 10: 1, nothing, nothing
            c.due("cell", x.look(0), 11);
            c.due("left", x.look(1), 1);
            Check.book(x, "11 6;");
            c.due("not one in a line", x.look(0), 0);
            c.due("left", x.look(1), 1);
        });
        c.test(36, "of these the first", () -> {
            TownTrain x = Check.told("wagon 1 1 0;wagon 1 1 0;hours 24;");
            Check.work(x, "lay 0 4;lay 1 7;day;day;");
            c.due("4 and 7 are alike", x.look(0), 4);
            c.due("left", x.look(1), 1);
            Check.book(x, "0 6;1 6;2 6;3 6;5 6;6 6;8 6;9 6;");
            c.due("eight lines", x.look(0), 4);
        });
        c.test(36, "none of the DAYS fits, or none is noted", () -> {
            TownTrain x = Check.told(ONE);
            c.due("none noted: the first cell", x.look(0), 0);
            c.due("none left", x.look(1), 0);
            Check.work(x, "day;");
            Check.book(x, "0 1;1 1;");
            c.due("none fits: the first in no line", x.look(0), 2);
            c.due("none left", x.look(1), 0);
            Check.book(x, "0 1;1 1;2 1;3 1;4 1;5 1;6 1;7 1;");
            c.due("behind eight lines", x.look(0), 8);
        });
        c.test(36, "NONE: all CELLS are in lines (a BOOK has 8 of 12 at most, so one is always told)", () -> {
            TownTrain x = Check.told("");
            Check.book(x, "0 6;1 6;2 6;3 6;4 6;5 6;6 6;7 6;");
            c.due("the first behind eight", x.look(0), 8);
            Check.book(x, "4 6;5 6;6 6;7 6;8 6;9 6;10 6;11 6;");
            c.due("the first ahead of eight", x.look(0), 0);
            Check.book(x, "0 6;1 6;2 6;3 6;4 6;5 6;6 6;");
            c.due("behind seven", x.look(0), 7);
        });
        c.test(36, "all twelve DAYS left at the worst", () -> {
            TownTrain x = Check.told("");
            Check.work(x, "again 12[day;];");
            c.due("cell", x.look(0), 0);
            c.due("left", x.look(1), 12);
        });
        c.test(36, "whatever stood there: the first KIND, the last, and nothing", () -> {
            for (int kind : new int[] {0, 5}) {
                TownTrain x = Check.told(("wagon 1 1 " + kind + ";").repeat(4) + "hours 24;");
                Check.book(x, "0 6;1 6;2 6;3 6;4 6;5 6;6 6;7 6;");
                String town = "lay 0 8;lay 1 9;lay 2 10;lay 3 11;day;";
                Check.work(x, town + "fetch 0;fetch 1;fetch 2;fetch 3;" + town + "day;");
                c.due("of three DAYS two are left", x.look(1), 2);
                c.due("the first", x.look(0), 8);
            }
        });
        c.test(36, "0 the CELL, 1 how many", () -> c.range("look", what -> new TownTrain().look(what), 0, 1));
    }

    private static void stood() {
        c.test(37, "The KIND that stood in a CELL on a DAY (0 to 11); 6: nothing", () -> {
            TownTrain x = Check.told("wagon 1 1 0;wagon 1 1 5;hours 24;");
            Check.work(x, "lay 0 0;lay 1 11;day;");
            c.row("day 0", cell -> x.stood(0, cell), 0, 6, 6, 6, 6, 6, 6, 6, 6, 6, 6, 5);
            Check.work(x, "again 11[day;];");
            c.row("day 11", cell -> x.stood(11, cell), 6, 6, 6, 6, 6, 6, 6, 6, 6, 6, 6, 6);
        });
        c.test(37, "NONE: it is not noted", () -> {
            TownTrain x = Check.told("wagon 1 1 0;");
            c.row("no day", day -> x.stood(day, 0), -1, -1, -1, -1, -1, -1, -1, -1, -1, -1, -1, -1);
            Check.work(x, "lay 0 0;");
            c.due("this day is not over", x.stood(0, 0), -1);
            Check.work(x, "day;");
            c.due("now it is", x.stood(0, 0), 0);
            c.due("not the next", x.stood(1, 0), -1);
            x.undo();
            c.due("undone", x.stood(0, 0), -1);
        });
        c.test(37, "IllegalArgumentException: no such DAY, no such CELL", () -> {
            TownTrain x = Check.told(ONE);
            Check.work(x, "again 20[day;];");
            c.range("day", day -> x.stood(day, 0), 0, 11);
            c.range("cell", cell -> x.stood(0, cell), 0, 11);
        });
    }

    private static void fraction(String what, Check.IntCall part, long above, long below) {
        c.row(what + ", part", part, above, below);
    }

    private static void mild() {
        c.test(38, "How likely there is no FROST in n DAYS (0 to 8): above (part 0), below (part 1)", () -> {
            TownTrain x = Check.told("frost 1;");
            fraction("0 days", p -> x.mild(0, p), 1, 1);
            fraction("1 day", p -> x.mild(1, p), 15, 16);
            fraction("8 days", p -> x.mild(8, p), 2562890625L, 4294967296L);
        });
        c.test(38, "FROST: each DAY by Q of 16: 0 and 16", () -> {
            TownTrain never = Check.told("frost 0;");
            fraction("never", p -> never.mild(8, p), 1, 1);
            TownTrain always = Check.told("frost 16;");
            fraction("no days", p -> always.mild(0, p), 1, 1);
            fraction("always", p -> always.mild(1, p), 0, 1);
            fraction("always", p -> always.mild(8, p), 0, 1);
            TownTrain nearly = Check.told("frost 15;");
            fraction("nearly always", p -> nearly.mild(8, p), 1, 4294967296L);
        });
        c.test(38, "in least terms (so below)", () -> {
            TownTrain x = Check.told("frost 4;");
            fraction("3 of 4", p -> x.mild(1, p), 3, 4);
            fraction("3 of 4, twice", p -> x.mild(2, p), 9, 16);
            TownTrain y = Check.told("frost 8;");
            fraction("half, eight times", p -> y.mild(8, p), 1, 256);
        });
        c.test(38, "IllegalArgumentException: n, part", () -> {
            TownTrain x = Check.told("frost 1;");
            c.range("n", n -> x.mild(n, 0), 0, 8);
            c.range("part", part -> x.mild(1, part), 0, 1);
        });
    }

    private static void ahead() {
        c.test(39, "The mean number of DAYS ahead of the first FROST, n (0 to 7) at most", () -> {
            TownTrain x = Check.told("frost 1;");
            fraction("0 days", p -> x.ahead(0, p), 0, 1);
            fraction("1 day", p -> x.ahead(1, p), 15, 16);
            fraction("2 days", p -> x.ahead(2, p), 465, 256);
            // 15 (1 - (15/16)^7) is (15 * 268435456 - 15 * 170859375) / 16^7
            fraction("7 days", p -> x.ahead(7, p), 1463641215L, 268435456L);
        });
        c.test(39, "FROST: each DAY by Q of 16: 0 and 16", () -> {
            TownTrain never = Check.told("");
            fraction("never", p -> never.ahead(7, p), 7, 1);
            fraction("never, no days", p -> never.ahead(0, p), 0, 1);
            TownTrain always = Check.told("frost 16;");
            fraction("always", p -> always.ahead(7, p), 0, 1);
            fraction("always, no days", p -> always.ahead(0, p), 0, 1);
        });
        c.test(39, "in least terms", () -> {
            TownTrain x = Check.told("frost 8;");
            fraction("halves", p -> x.ahead(7, p), 127, 128);
            TownTrain y = Check.told("frost 4;");
            fraction("quarters", p -> y.ahead(2, p), 21, 16);
        });
        c.test(39, "IllegalArgumentException: n, part", () -> {
            TownTrain x = Check.told("frost 1;");
            c.range("n", n -> x.ahead(n, 0), 0, 7);
            c.range("part", part -> x.ahead(1, part), 0, 1);
        });
    }

    private static void season(TownTrain x, int seed, int days, long... want) {
        c.row("season by " + seed + " of " + days + ",", what -> x.season(seed, days, what), want);
    }

    private static void season() {
        c.test(40, "A SEASON of so many DAYS (1 to 40)", () -> {
            TownTrain x = Check.told(ONE);
            c.range("days", days -> x.season(1, days, 0), 1, 40);
            season(x, 1, 1, 0, 1, 0, 6);
            season(x, 1, 40, 0, 40, 0, 240);
        });
        c.test(40, "0 how many are LEFT then, 1 how often one was laid, 2 DAYS with frost, 3 HOURS", () -> {
            TownTrain x = Check.told(ONE);
            c.range("what", what -> x.season(1, 1, what), 0, 3);
        });
        c.test(40, "3 HOURS that were not used, in all", () -> {
            TownTrain x = Check.told("wagon 6 1 0;hours 24;");
            c.due("of one DAY", x.season(1, 1, 3), 15);
            c.due("of forty", x.season(1, 40, 3), 600);
            TownTrain y = Check.told("wagon 6 1 0;hours 9;");
            c.due("all are used", y.season(1, 40, 3), 0);
            TownTrain z = Check.told("hours 24;");
            c.due("none is used", z.season(1, 40, 3), 960);
        });
        c.test(40, "no WAGONS", () -> {
            season(new TownTrain(), 1, 1, 0, 0, 0, 8);
            season(new TownTrain(), -1, 40, 0, 0, 0, 320);
        });
        c.test(40, "Asked, nothing stays changed", () -> {
            TownTrain x = Check.told("wagon 2 1 3;wagon 2 1 4;frost 16;hours 4;");
            Check.work(x, "lay 1 5;take 0;");
            x.image();
            season(x, 9, 40, 2, 1, 40, 39 * 4);
            x.span(9, 20, 40, 0, 0);
            c.row("told", x::told, 2, 0, 0, 0, 0, 2, 1, 0, 0, 1);
            c.due("stands", x.stands(5), 1);
            c.row("count", x::count, 1, 0, 1);
            c.due("not noted", x.fits(), 0);
            c.due("no fault", x.fault(), -1);
            c.due("undo", x.undo(), 0);
        });
    }

    private static void seasonLays() {
        c.test(40, "each WAGON on the train, by number, is laid in the first empty CELL in which it can be", () -> {
            // the hard cells last 4, the last one alone lasts 1
            TownTrain x = Check.told(ONE + "ground 0 9;ground 1 9;ground 2 9;ground 3 9;ground 4 9;ground 5 9;"
                + "ground 6 9;ground 7 9;ground 8 9;ground 9 9;ground 10 9;hours 2;");
            season(x, 1, 1, 0, 1, 0, 0);
            // cell 0 lasts 4: it could be laid there, so it is
            TownTrain y = Check.told(ONE + "ground 0 9;hours 4;");
            season(y, 1, 1, 1, 1, 0, 0);
            // two beside one another: the second is near the first
            TownTrain z = Check.told(ONE.repeat(2) + "hours 24;");
            Check.law(z, "1+near*5");
            season(z, 1, 1, 0, 2, 0, 24 - 1 - 6 - 2);
        });
        c.test(40, "all eight are laid and taken up", () -> {
            TownTrain x = Check.told(ONE.repeat(8) + "needs 7 6;needs 1 0;hours 24;");
            season(x, 1, 2, 0, 16, 0, 16);
            c.due("the last is not left", x.span(1, 1, 2, 2, 7), 1);
            TownTrain y = Check.told(ONE.repeat(8) + "hours 15;");
            season(y, 1, 1, 1, 8, 0, 0);
            c.due("the first is left", y.span(1, 1, 1, 2, 0), 0);
        });
        c.test(40, "HOURS by near and frost, DAY by DAY", () -> {
            TownTrain x = Check.told(ONE.repeat(3) + "hours 24;frost 8;");
            Check.law(x, "1+near*2+frost*3");
            for (int seed = 0; seed < 8; seed++) {
                int s = seed;
                int unused = 0;
                for (int days = 1; days <= 12; days++) {
                    s = draw(s);
                    int frost = (s >>> 16 & 32767) % 16 < 8 ? 3 : 0;
                    unused += 24 - (1 + frost) - (3 + frost) - (3 + frost) - 3;
                    c.due("seed " + seed + ", " + days + " days", x.season(seed, days, 3), unused);
                }
            }
        });
        c.test(40, "HOURS by near without frost, and by frost without near", () -> {
            TownTrain x = Check.told(ONE.repeat(2) + "hours 24;frost 16;");
            Check.law(x, "1+near*2+frost*3");
            Check.work(x, "lay 1 1;");
            c.due("near one now", x.lasts(0, 0), 3);
            Check.work(x, "take 1;");
            // 22 are left of the first day: 4, and 6 for the second one near it, and 2
            season(x, 5, 1, 0, 2, 1, 22 - 4 - 6 - 2);
            c.due("near none now", x.lasts(0, 0), 1);
        });
        c.test(40, "by number: those that are needed come first", () -> {
            TownTrain x = Check.told("wagon 3 1 0;wagon 1 1 0;needs 1 0;hours 24;");
            season(x, 1, 1, 0, 2, 0, 24 - 4 - 2);
            TownTrain y = Check.told("wagon 6 1 0;wagon 1 1 0;needs 1 0;hours 5;");
            season(y, 1, 2, 0, 0, 0, 10);
        });
        c.test(40, "(by HOURS; else not)", () -> {
            TownTrain x = Check.told("wagon 3 1 0;wagon 3 1 0;wagon 2 1 0;hours 5;");
            // 0 takes 3, 1 can't be laid, 2 takes 2; nothing is left to take them up
            season(x, 1, 1, 2, 2, 0, 0);
            // then 1 takes 3 and is taken up by 1
            season(x, 1, 2, 2, 3, 0, 1);
        });
        c.test(40, "then each that is laid, from the last number down, is taken up, if it can be", () -> {
            // one hour is left: the last is taken up
            TownTrain x = Check.told("wagon 2 1 0;wagon 2 1 0;hours 5;");
            season(x, 1, 1, 1, 2, 0, 0);
            c.due("the first is left", x.span(1, 1, 1, 2, 0), 0);
            c.due("the last is not", x.span(1, 1, 1, 2, 1), 1);
            // the last takes 3 up, which are not there; the first takes 1
            TownTrain y = Check.told("wagon 2 1 0;wagon 6 1 0;hours 10;");
            season(y, 1, 1, 1, 2, 0, 1);
            c.due("the first is not left", y.span(1, 1, 1, 2, 0), 1);
            // what the last needs can't be taken up ahead of it
            TownTrain z = Check.told("wagon 2 1 0;wagon 6 1 0;needs 1 0;hours 10;");
            season(z, 1, 1, 2, 2, 0, 2);
        });
    }

    private static int draw(int seed) {
        return seed * 1103515245 + 12345;
    }

    private static void seasonDraws() {
        c.test(40, "DRAW by 16 below Q: frost on this DAY", () -> {
            season(Check.told("frost 0;"), 7, 40, 0, 0, 0, 320);
            season(Check.told("frost 16;"), 7, 40, 0, 0, 40, 320);
            // the seed 0 becomes 12345, whose bits from 16 on are 0
            c.due("0 is below 1", Check.told("frost 1;").season(0, 1, 2), 1);
            c.due("0 is not below 0", Check.told("frost 0;").season(0, 1, 2), 0);
            for (int q = 0; q <= 16; q++) {
                TownTrain x = Check.told("frost " + q + ";");
                int drawn = (draw(1) >>> 16 & 32767) % 16;
                c.due("seed 1 by " + q, x.season(1, 1, 2), drawn < q ? 1 : 0);
            }
        });
        c.test(40, "the SEED (32 bits) becomes itself times 1,103,515,245, and 12,345 (it wraps)", () -> {
            for (int seed : new int[] {0, 1, -1, 42, Integer.MAX_VALUE, Integer.MIN_VALUE, 65535, 65536}) {
                TownTrain x = Check.told("frost 8;");
                int s = seed;
                int frosts = 0;
                for (int days = 1; days <= 40; days++) {
                    s = draw(s);
                    frosts += (s >>> 16 & 32767) % 16 < 8 ? 1 : 0;
                    c.due("seed " + seed + ", " + days + " days", x.season(seed, days, 2), frosts);
                }
            }
        });
        c.test(40, "its bits 16 to 30, by 16 what is left of them", () -> {
            // by inverse of the factor: the seed 0x80000000 - 12345 times it becomes 0x80000000 in all
            int inverse = 1;
            for (int i = 0; i < 5; i++) {
                inverse *= 2 - 1103515245 * inverse;
            }
            for (int drawn = 0; drawn < 16; drawn++) {
                for (int bits : new int[] {drawn << 16, drawn << 16 | 65535, drawn << 16 | 1 << 31, 0x7ff0 + drawn << 16}) {
                    int seed = (bits - 12345) * inverse;
                    c.due("becomes " + bits, draw(seed), bits);
                    String q = "frost " + drawn + ";";
                    c.due("not below itself", Check.told(q).season(seed, 1, 2), 0);
                    c.due("below one more", Check.told("frost " + (drawn + 1) + ";").season(seed, 1, 2), 1);
                }
            }
        });
    }

    private static void seasonFromNow() {
        c.test(40, "a SEASON goes on from how all is: HOURS left, laid and LEFT ones", () -> {
            TownTrain x = Check.told("wagon 2 1 0;wagon 3 1 1;hours 8;");
            Check.work(x, "lay 1 0;lay 0 1;");
            season(x, 5, 1, 0, 0, 0, 1);
            Check.work(x, "day;");
            season(x, 5, 1, 2, 0, 0, 8);
        });
        c.test(40, "the LAW's day goes on, too", () -> {
            TownTrain x = Check.told("wagon 1 1 0;hours 9;");
            Check.law(x, "day*4+1");
            // 1 on day 0, 5 on day 1, 9 on day 2, and then it is left
            season(x, 5, 2, 0, 2, 0, 7 + 3);
            season(x, 5, 3, 1, 3, 0, 7 + 3);
            Check.work(x, "day;day;");
            season(x, 5, 1, 1, 1, 0, 0);
        });
        c.test(40, "then day (REFUSED on DAY 200)", () -> {
            TownTrain x = Check.told("wagon 2 1 0;hours 9;");
            Check.work(x, "again 19[" + "day;".repeat(10) + "];");
            Check.work(x, "again 9[day;];");
            c.due("day 199", x.told(3), 199);
            season(x, 5, 1, 0, 1, 0, 6);
            // on day 200 the hours don't come back: 6 are left, then 3, then 0
            season(x, 5, 2, 0, 2, 0, 6 + 6);
            season(x, 5, 3, 0, 3, 0, 6 + 6 + 3);
            season(x, 5, 4, 0, 4, 0, 6 + 6 + 3 + 0);
            season(x, 5, 5, 0, 4, 0, 6 + 6 + 3 + 0 + 0);
        });
    }

    private static void span() {
        c.test(41, "0 the fewest LEFT then, 1 the most", () -> {
            // in frost each lasts 1 more, and none is left of 5 hours to take the last one up
            TownTrain x = Check.told("wagon 2 1 0;wagon 3 1 0;hours 5;frost 8;");
            Check.law(x, "hours+frost*2");
            int fewest = 9;
            int most = 0;
            int not = 0;
            for (int i = 0; i < 20; i++) {
                int left = x.season(-7 + i, 1, 0);
                fewest = Math.min(fewest, left);
                most = Math.max(most, left);
                not += left == 0 ? 1 : 0;
            }
            c.due("they differ", fewest < most ? 1 : 0, 1);
            c.due("fewest", x.span(-7, 20, 1, 0, 0), fewest);
            c.due("most", x.span(-7, 20, 1, 1, 0), most);
            c.due("not left", x.span(-7, 20, 1, 2, 1), not);
        });
        c.test(41, "2 by how many a WAGON is not LEFT then", () -> {
            TownTrain x = Check.told("wagon 2 1 0;wagon 2 1 0;hours 5;");
            c.row("the first is always left", wagon -> x.span(3, 20, 1, 2, wagon), 0, 20);
            c.due("by one", x.span(3, 1, 1, 2, 1), 1);
            c.due("laid ones are not left: none is", Check.told(ONE).span(3, 20, 40, 2, 0), 20);
        });
        c.test(41, "Of so many SEEDS (1 to 20; seed, seed and 1, ..): one alone", () -> {
            TownTrain x = Check.told("wagon 1 1 0;hours 1;frost 8;");
            Check.law(x, "1+frost");
            // without frost it is laid and left, in frost it stays on the train
            for (int seed = -3; seed < 4; seed++) {
                int frost = x.season(seed, 1, 2);
                c.due("not left by " + seed, x.span(seed, 1, 1, 2, 0), frost);
                c.due("fewest by " + seed, x.span(seed, 1, 1, 0, 0), 1 - frost);
                c.due("most by " + seed, x.span(seed, 1, 1, 1, 0), 1 - frost);
            }
        });
        c.test(41, "FROST by 1 of 16, by 15, by none, by all", () -> {
            for (int q : new int[] {0, 1, 15, 16}) {
                TownTrain x = Check.told("wagon 1 1 0;hours 1;frost " + q + ";");
                Check.law(x, "1+frost");
                int not = 0;
                for (int seed = -10; seed < 10; seed++) {
                    not += x.season(seed, 1, 2);
                }
                c.due("not left by " + q, x.span(-10, 20, 1, 2, 0), not);
                c.due("fewest by " + q, x.span(-10, 20, 1, 0, 0), not > 0 ? 0 : 1);
                c.due("most by " + q, x.span(-10, 20, 1, 1, 0), not < 20 ? 1 : 0);
                c.due("as it must be by " + q, q == 0 ? not : q == 16 ? 20 - not : 0, 0);
            }
        });
        c.test(41, "seed and 1: it wraps", () -> {
            TownTrain x = Check.told("wagon 1 1 0;hours 1;frost 8;");
            Check.law(x, "1+frost");
            for (int many = 1; many <= 20; many++) {
                int not = 0;
                for (int i = 0; i < many; i++) {
                    not += x.season(Integer.MAX_VALUE - 9 + i, 1, 2);
                }
                c.due("of " + many, x.span(Integer.MAX_VALUE - 9, many, 1, 2, 0), not);
            }
        });
    }

    private static void spanRefused() {
        TownTrain x = Check.told(ONE.repeat(2));
        c.test(41, "SEEDS (1 to 20", () -> c.range("many", many -> x.span(0, many, 1, 0, 0), 1, 20));
        c.test(41, "DAYS as for a SEASON", () -> c.range("days", days -> x.span(0, 1, days, 0, 0), 1, 40));
        c.test(41, "0, 1, 2", () -> c.range("what", what -> x.span(0, 1, 1, what, 0), 0, 2));
        c.test(41, "(IllegalArgumentException: no such WAGON, also for 0, 1)", () -> {
            for (int what = 0; what < 3; what++) {
                int each = what;
                c.range("wagon for " + what, wagon -> x.span(0, 1, 1, each, wagon), 0, 1);
                c.badArgument("no wagons for " + what, () -> new TownTrain().span(0, 1, 1, each, 0));
            }
            c.due("none is a NoSuchElementException", x.status(0), 0);
        });
    }
}
