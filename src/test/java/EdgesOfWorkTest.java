/** Promises 5, 8 to 11, 14 to 16 and 27 at their edges: a test for each piece of the document that names one. */
public final class EdgesOfWorkTest {
    private static final Check c = new Check();
    private static final String ONE = "wagon 1 1 0;";

    public static void main(String[] args) {
        counting();
        twoHundred();
        lay();
        layNeeds();
        take();
        fetch();
        day();
        lastDay();
        undo();
        told();
        toldRefused();
        wagon();
        stands();
        lasts();
        would();
        can();
        behind();
        c.end("EdgesOfWorkTest", 5, 8, 9, 10, 11, 14, 15, 16, 27);
    }

    private static int yes(boolean answer) {
        return answer ? 1 : 0;
    }

    /** A work, with how many steps are to be done and refused by it. */
    private static void work(TownTrain x, String text, int done, int refused) {
        c.due("done by '" + text + "'", Check.work(x, text), done);
        c.due("refused by '" + text + "'", x.told(9), refused);
    }

    private static void counting() {
        c.test(5, "how many STEPS were done (agains not counted, nor REFUSED ones)", () -> {
            work(Check.told(ONE), "", 0, 0);
            work(Check.told(ONE), "again 3[];", 0, 0);
            work(Check.told(ONE), "again 3[day;];", 3, 0);
            work(Check.told(ONE), "again 2[again 2[day;];];", 4, 0);
            work(Check.told(ONE), "take 0;fetch 0;", 0, 2);
            work(Check.told(ONE), "take 0;lay 0 3;fetch 0;take 0;", 2, 2);
        });
        c.test(5, "STEPS are done in order", () -> {
            TownTrain x = Check.told("wagon 1 1 0;wagon 1 1 0;needs 1 0;");
            work(x, "lay 1 0;lay 0 0;lay 1 1;take 0;take 1;take 0;", 4, 2);
            c.due("hours", x.told(5), 4);
        });
        c.test(5, "one that can't be done is REFUSED, and changes nothing", () -> {
            TownTrain x = Check.told("wagon 2 1 0;wagon 2 1 0;needs 1 0;hours 3;");
            work(x, "lay 0 5;", 1, 0);
            work(x, "lay 0 6;lay 1 6;take 1;fetch 0;fetch 1;", 0, 5);
            c.row("told", x::told, 2, 0, 0, 0, 0, 1, 1, 0, 0, 5);
            c.row("stands", x::stands, -1, -1, -1, -1, -1, 0, -1, -1, -1, -1, -1, -1);
        });
        c.test(5, "REFUSED ones change nothing, yet they are a WORK", () -> {
            TownTrain x = Check.told(ONE);
            work(x, "take 0;", 0, 1);
            c.due("works", x.count(2), 1);
            c.due("no refused call", x.status(0) + x.status(1), 0);
        });
    }

    private static void twoHundred() {
        String twenty = "again 19[day;";
        c.test(5, "200 STEPS at most are begun by one WORK", () -> {
            // the again, and 19 by 10
            TownTrain x = Check.told("");
            work(x, twenty + "day;".repeat(9) + "];" + "day;".repeat(9), 199, 0);
            TownTrain y = Check.told("");
            work(y, twenty + "day;".repeat(9) + "];" + "day;".repeat(10), 199, 0);
            c.due("the 201st is left out", y.told(3), 199);
        });
        c.test(5, "(an again, too, each time it is come to", () -> {
            // 1, then 20 by 1 and 9: the 200th is the 9th of the last turn but for the first
            TownTrain x = Check.told("");
            work(x, "again 20[again 9[day;];];", 179, 0);
            // an again that is done no time is begun all the same
            TownTrain y = Check.told("");
            work(y, "again 20[" + "again 0[];".repeat(9) + "day;];", 19, 0);
            // an again is begun once, however often what is in it is done
            TownTrain z = Check.told("");
            work(z, "again 20[];".repeat(11) + "day;", 1, 0);
        });
        c.test(5, "an again is the 200th, what is in it is left out", () -> {
            String begins199 = "again 18[" + "again 0[];".repeat(10) + "take 0;];";
            TownTrain x = Check.told(ONE);
            work(x, begins199 + "again 1[day;];", 0, 18);
            c.due("no day", x.told(3), 0);
            TownTrain y = Check.told(ONE);
            work(y, begins199 + "day;day;", 1, 18);
            c.due("one day", y.told(3), 1);
        });
        c.test(5, "REFUSED ones, too)", () -> {
            TownTrain x = Check.told(ONE);
            work(x, "again 20[" + "take 0;".repeat(10) + "];day;", 0, 199);
            c.due("no day", x.told(3), 0);
            TownTrain y = Check.told(ONE);
            work(y, "again 19[" + "take 0;".repeat(10) + "];" + "take 0;".repeat(8) + "day;day;", 1, 198);
            c.due("a day as the 200th", y.told(3), 1);
        });
        c.test(5, "what would come behind is left out", () -> {
            TownTrain x = Check.told(ONE);
            work(x, "again 20[" + "take 0;".repeat(11) + "];lay 0 0;", 0, 199);
            c.due("what is left out is not refused, nor done", x.told(6), 0);
            work(x, "lay 0 0;", 1, 0);
        });
    }

    private static void lay() {
        c.test(5, "lay: A, on the train", () -> {
            TownTrain x = Check.told(ONE);
            work(x, "lay 0 3;lay 0 3;lay 0 4;", 1, 2);
            c.due("it stays where it is", x.wagon(0, 4), 3);
            work(x, "day;lay 0 3;", 1, 1);
            c.due("left", x.wagon(0, 3), 2);
        });
        c.test(5, "is laid in CELL X, if no other one is", () -> {
            TownTrain x = Check.told(ONE.repeat(2));
            work(x, "lay 0 0;lay 1 0;", 1, 1);
            c.due("the first stands", x.stands(0), 0);
            work(x, "lay 1 11;", 1, 0);
            c.due("the last cell", x.stands(11), 1);
            work(x, "take 0;take 1;lay 0 11;lay 1 0;", 4, 0);
            c.due("free again", x.stands(0), 1);
        });
        c.test(5, "and HOURS are left as many as it LASTS (they go)", () -> {
            TownTrain x = Check.told("wagon 6 1 0;wagon 2 1 0;wagon 1 1 0;hours 8;");
            work(x, "lay 0 0;lay 1 1;lay 2 2;", 2, 1);
            c.due("just enough, none left", x.told(5), 0);
            TownTrain y = Check.told("wagon 6 1 0;wagon 3 1 0;wagon 2 1 0;hours 8;");
            work(y, "lay 0 0;lay 1 1;", 1, 1);
            c.due("one too few", y.told(5), 2);
            work(y, "lay 2 1;", 1, 0);
            c.due("by ground", y.told(5), 0);
            TownTrain z = Check.told("wagon 1 1 0;ground 4 9;ground 5 8;hours 3;");
            work(z, "lay 0 4;lay 0 5;", 1, 1);
            c.due("the cell in which it lasts less", z.stands(5), 0);
            c.due("hours", z.told(5), 0);
        });
        c.test(5, "a DAY of 1 HOUR and one of 24", () -> {
            TownTrain x = Check.told("wagon 1 1 0;hours 1;");
            work(x, "lay 0 0;take 0;", 1, 1);
            TownTrain y = Check.told("wagon 1 1 0;hours 24;");
            Check.law(y, "999");
            work(y, "lay 0 0;", 1, 0);
            c.due("all 24", y.told(5), 0);
            TownTrain z = Check.told("wagon 1 1 0;hours 23;");
            Check.law(z, "999");
            work(z, "lay 0 0;", 0, 1);
        });
    }

    private static void layNeeds() {
        c.test(5, "all it needs are laid", () -> {
            TownTrain x = Check.told(ONE.repeat(3) + "needs 2 0;needs 2 1;");
            work(x, "lay 2 2;lay 0 0;lay 2 2;lay 1 1;lay 2 2;", 3, 2);
            TownTrain y = Check.told(ONE.repeat(2) + "needs 1 0;");
            work(y, "lay 0 0;day;lay 1 1;", 2, 1);
            work(y, "fetch 0;lay 1 1;lay 0 0;lay 1 1;", 3, 1);
        });
    }

    private static void take() {
        c.test(5, "take: A, laid, is on the train again", () -> {
            TownTrain x = Check.told(ONE);
            work(x, "take 0;", 0, 1);
            work(x, "lay 0 7;take 0;take 0;", 2, 1);
            c.due("on the train", x.wagon(0, 3), 0);
            c.due("the cell is empty", x.stands(7), -1);
            work(x, "lay 0 7;day;take 0;", 2, 1);
            c.due("a left one is not laid", x.wagon(0, 3), 2);
        });
        c.test(5, "if no other one that is laid needs it", () -> {
            TownTrain x = Check.told(ONE.repeat(8) + "needs 7 0;needs 6 0;hours 24;");
            work(x, "lay 0 0;take 0;", 2, 0);
            work(x, "lay 0 0;lay 7 7;take 0;", 2, 1);
            work(x, "lay 6 6;take 7;take 0;", 2, 1);
            work(x, "take 6;take 0;", 2, 0);
            TownTrain y = Check.told(ONE.repeat(3) + "needs 2 1;hours 24;");
            work(y, "lay 0 0;lay 1 1;lay 2 2;take 1;take 0;", 4, 1);
            c.due("the one that is needed stands", y.stands(1), 1);
            work(y, "take 2;take 1;", 2, 0);
        });
        c.test(5, "one that was taken up is laid no more", () -> {
            TownTrain x = Check.told(ONE.repeat(2) + "needs 1 0;");
            work(x, "lay 0 0;take 0;lay 1 1;", 2, 1);
            c.due("none laid", x.told(6), 0);
            c.due("what it needs is not laid", yes(x.can(1, 1)), 0);
        });
        c.test(5, "half of H (cut, 1 at least; they go)", () -> {
            int[] half = {0, 1, 1, 1, 2, 2, 3};
            for (int h = 1; h <= 6; h++) {
                TownTrain x = Check.told("wagon " + h + " 1 0;hours 24;");
                work(x, "lay 0 0;take 0;", 2, 0);
                c.due("hours of " + h, x.told(5), 24 - h - half[h]);
                TownTrain y = Check.told("wagon " + h + " 1 0;hours " + (h + half[h]) + ";");
                work(y, "lay 0 0;take 0;", 2, 0);
                c.due("just enough for " + h, y.told(5), 0);
                TownTrain z = Check.told("wagon " + h + " 1 0;hours " + (h + half[h] - 1) + ";");
                work(z, "lay 0 0;take 0;", 1, 1);
                c.due("one too few for " + h, z.told(5), half[h] - 1);
            }
        });
        c.test(5, "half of H, whatever the LAW and the ground", () -> {
            TownTrain x = Check.told("wagon 2 1 0;ground 0 9;hours 24;");
            Check.law(x, "9");
            work(x, "lay 0 0;take 0;", 2, 0);
            c.due("hours", x.told(5), 14);
        });
    }

    private static void fetch() {
        c.test(5, "fetch: A, LEFT behind, is on the train again", () -> {
            TownTrain x = Check.told(ONE);
            work(x, "fetch 0;lay 0 0;fetch 0;day;fetch 0;fetch 0;", 3, 3);
            c.due("on the train", x.wagon(0, 3), 0);
            c.due("no mile", x.wagon(0, 5), -1);
            c.due("none left", x.told(7), 0);
            work(x, "lay 0 5;", 1, 0);
        });
        c.test(5, "1, and 1 for each 10 MILES (begun) it is behind (they go)", () -> {
            int[][] milesAndHours = {{1, 2}, {9, 2}, {10, 2}, {11, 3}, {19, 3}, {20, 3}};
            for (int[] m : milesAndHours) {
                TownTrain x = Check.told(ONE + "speed " + m[0] + ";hours 24;");
                work(x, "lay 0 0;day;fetch 0;", 3, 0);
                c.due("hours for " + m[0], x.told(5), 24 - m[1]);
                TownTrain y = Check.told(ONE + "speed " + m[0] + ";hours " + m[1] + ";");
                work(y, "lay 0 0;day;fetch 0;", 3, 0);
                c.due("just enough for " + m[0], y.told(5), 0);
                TownTrain z = Check.told(ONE + "speed " + m[0] + ";hours " + (m[1] - 1) + ";");
                work(z, "lay 0 0;day;fetch 0;", 2, 1);
                c.due("one too few for " + m[0], z.told(5), m[1] - 1);
                c.due("it stays behind", z.wagon(0, 3), 2);
            }
        });
        c.test(5, "it is behind from the MILE at which it was LEFT", () -> {
            TownTrain x = Check.told(ONE + "speed 20;hours 24;");
            work(x, "day;day;lay 0 0;day;day;", 5, 0);
            c.due("behind", x.behind(0), 40);
            work(x, "fetch 0;", 1, 0);
            c.due("hours", x.told(5), 19);
            // 230 miles are 24 hours, 231 were 25
            TownTrain y = Check.told(ONE + "speed 10;hours 24;");
            work(y, "lay 0 0;again 20[day;];day;day;day;", 24, 0);
            work(y, "fetch 0;", 1, 0);
            c.due("all hours", y.told(5), 0);
            TownTrain z = Check.told(ONE + "speed 11;hours 24;");
            work(z, "lay 0 0;again 20[day;];day;", 22, 0);
            work(z, "fetch 0;", 0, 1);
        });
    }

    private static void day() {
        c.test(5, "all that are laid are LEFT at this MILE", () -> {
            TownTrain x = Check.told(ONE.repeat(3) + "speed 7;");
            work(x, "day;lay 0 0;lay 2 11;day;lay 1 5;day;", 6, 0);
            c.row("miles", w -> x.wagon(w, 5), 7, 14, 7);
            c.row("left", w -> x.wagon(w, 3), 2, 2, 2);
            c.row("no cell", w -> x.wagon(w, 4), -1, -1, -1);
            c.due("three", x.told(7), 3);
            c.due("none laid", x.told(6), 0);
        });
        c.test(5, "the DAY is one more, the train goes V MILES on, all HOURS are there", () -> {
            TownTrain x = Check.told(ONE + "speed 20;hours 3;");
            work(x, "lay 0 0;day;", 2, 0);
            c.row("told", x::told, 1, 0, 0, 1, 20, 3, 0, 1, 0, 0);
            TownTrain y = Check.told("speed 1;");
            work(y, "day;day;", 2, 0);
            c.due("mile", y.told(4), 2);
        });
        c.test(5, "the TOWN of this DAY is noted (which KIND is laid where; DAYS 0 to 11 alone)", () -> {
            TownTrain x = Check.told("wagon 1 1 5;hours 24;speed 1;");
            work(x, "lay 0 11;again 12[day;fetch 0;lay 0 11;];", 37, 0);
            c.due("now it is day 12", x.told(3), 12);
            for (int day = 0; day < 12; day++) {
                c.due("kind on day " + day, x.stood(day, 11), 5);
                c.due("nothing on day " + day, x.stood(day, 10), 6);
            }
            c.due("all twelve", x.fits(), 4095);
            work(x, "day;", 1, 0);
            c.due("not a 13th", x.fits(), 4095);
            c.due("the last stays", x.stood(11, 11), 5);
            work(x, "again 20[day;];", 20, 0);
            c.due("nor later ones", x.fits(), 4095);
            c.due("the first stays", x.stood(0, 11), 5);
        });
    }

    /** A train on day 199, behind two works. */
    private static TownTrain lateTrain() {
        TownTrain x = Check.told(ONE);
        Check.work(x, "again 19[" + "day;".repeat(10) + "];");
        Check.work(x, "again 9[day;];");
        return x;
    }

    private static void lastDay() {
        c.test(5, "(REFUSED on DAY 200)", () -> {
            TownTrain x = lateTrain();
            c.due("day 199", x.told(3), 199);
            work(x, "lay 0 4;take 0;day;lay 0 4;day;", 4, 1);
            c.due("day 200", x.told(3), 200);
            c.due("miles", x.told(4), 1000);
            c.due("it changes nothing: still laid", x.stands(4), 0);
            c.due("not left", x.told(7), 0);
            c.due("hours do not come back", x.told(5), 7);
            work(x, "take 0;day;", 1, 1);
            c.due("other steps are done", x.told(5), 6);
            c.due("undo", x.undo(), 3);
            c.due("undo", x.undo(), 2);
            c.due("back on day 199", x.told(3), 199);
            work(x, "day;", 1, 0);
        });
    }

    private static void undo() {
        c.test(8, "The latest WORK that was done is undone: how many are left", () -> {
            TownTrain x = Check.told(ONE + "hours 3;");
            Check.work(x, "lay 0 3;");
            Check.work(x, "day;");
            Check.work(x, "fetch 0;lay 0 5;");
            c.due("works", x.count(2), 3);
            c.due("undo", x.undo(), 2);
            c.row("told", x::told, 1, 0, 0, 1, 5, 3, 0, 1, 0, 0);
            c.due("undo", x.undo(), 1);
            c.row("told", x::told, 1, 0, 0, 0, 0, 2, 1, 0, 0, 0);
            c.due("the cell", x.stands(3), 0);
            c.due("no day is noted", x.fits(), 0);
            c.due("undo", x.undo(), 0);
            c.row("told", x::told, 1, 0, 0, 0, 0, 3, 0, 0, 0, 0);
        });
        c.test(8, "-1: there is none", () -> {
            TownTrain x = Check.told(ONE);
            c.due("none yet", x.undo(), -1);
            Check.work(x, "lay 0 3;");
            c.due("one", x.undo(), 0);
            c.due("none", x.undo(), -1);
            c.due("it changes nothing", x.wagon(0, 3), 0);
            c.due("it is no refused call", x.status(0) + x.status(1), 0);
        });
        c.test(8, "sixteen are undone", () -> {
            TownTrain x = Check.told(ONE);
            for (int i = 0; i < 16; i++) {
                Check.work(x, "day;");
            }
            Check.work(x, "day;");
            for (int left = 15; left >= 0; left--) {
                c.due("undo", x.undo(), left);
                c.due("day", x.told(3), left);
            }
            c.due("none", x.undo(), -1);
        });
        c.test(8, "that was done: a text with a FAULT is none", () -> {
            TownTrain x = Check.told(ONE);
            Check.work(x, "day;");
            Check.work(x, "day;bad");
            c.due("undo", x.undo(), 0);
            c.due("day", x.told(3), 0);
        });
        c.test(8, "a WORK by which nothing was done is undone by itself", () -> {
            TownTrain x = Check.told(ONE);
            Check.work(x, "day;");
            x.work(0);
            c.due("undo", x.undo(), 1);
            c.due("day", x.told(3), 1);
        });
    }

    private static void told() {
        c.test(9, "0 WAGONS, 1 GANGS, 2 VOTERS, 3 the DAY, 4 the MILE, 5 HOURS left, 6 how many are laid, 7 LEFT, 8 lines", () -> {
            TownTrain x = Check.told(ONE.repeat(8) + "gang 1;".repeat(4) + "voter 0 1 2;".repeat(9) + "hours 24;");
            Check.book(x, "0 0;1 0;2 0;3 0;4 0;5 0;6 0;7 0;");
            Check.work(x, "lay 0 0;lay 1 1;lay 2 2;lay 3 3;lay 4 4;lay 5 5;lay 6 6;lay 7 7;");
            c.row("all are laid", x::told, 8, 4, 9, 0, 0, 16, 8, 0, 8, 0);
            Check.work(x, "day;");
            c.row("all are left", x::told, 8, 4, 9, 1, 5, 24, 0, 8, 8, 0);
        });
        c.test(9, "IllegalArgumentException: another what (so below)", () -> {
            TownTrain x = new TownTrain();
            c.range("told", x::told, 0, 9);
        });
    }

    private static void toldRefused() {
        c.test(9, "9 STEPS REFUSED by the latest WORK", () -> {
            TownTrain x = Check.told(ONE);
            work(x, "take 0;take 0;", 0, 2);
            work(x, "take 0;", 0, 1);
            work(x, "day;", 1, 0);
            work(x, "again 20[" + "take 0;".repeat(10) + "];", 0, 199);
        });
        c.test(9, "(0 ahead of any", () -> c.due("new", Check.told(ONE).told(9), 0));
        c.test(9, "behind undo()", () -> {
            TownTrain x = Check.told(ONE);
            work(x, "take 0;", 0, 1);
            work(x, "take 0;take 0;", 0, 2);
            x.undo();
            c.due("not those of the work ahead", x.told(9), 0);
        });
        c.test(9, "restore())", () -> {
            TownTrain x = Check.told(ONE);
            work(x, "take 0;", 0, 1);
            x.image();
            c.due("an image changes nothing", x.told(9), 1);
            work(x, "take 0;take 0;", 0, 2);
            x.restore();
            c.due("behind restore", x.told(9), 0);
        });
        c.test(9, "by the latest WORK: texts that are not done count not", () -> {
            TownTrain x = Check.told(ONE);
            work(x, "take 0;take 0;", 0, 2);
            Check.work(x, "take 0;bad");
            c.due("behind a fault", x.told(9), 2);
            Check.law(x, "3");
            Check.book(x, "1 1;");
            c.due("behind a law and a book", x.told(9), 2);
            Check.train(x, ONE);
            c.due("a new train has had no work", x.told(9), 0);
        });
    }

    private static void wagon() {
        c.test(10, "0 H, 1 W, 2 K, 3 0 on the train, 1 laid, 2 LEFT", () -> {
            TownTrain x = Check.told("wagon 6 9 5;wagon 1 1 0;");
            c.row("the most", what -> x.wagon(0, what), 6, 9, 5, 0);
            c.row("the least", what -> x.wagon(1, what), 1, 1, 0, 0);
            Check.work(x, "lay 0 0;");
            c.due("laid", x.wagon(0, 3), 1);
            Check.work(x, "day;");
            c.due("left", x.wagon(0, 3), 2);
            Check.work(x, "fetch 0;");
            c.due("on the train", x.wagon(0, 3), 0);
        });
        c.test(10, "4 the CELL (NONE: not laid)", () -> {
            TownTrain x = Check.told(ONE.repeat(2));
            c.due("on the train", x.wagon(0, 4), -1);
            Check.work(x, "lay 0 0;lay 1 11;");
            c.due("the first cell", x.wagon(0, 4), 0);
            c.due("the last cell", x.wagon(1, 4), 11);
            Check.work(x, "take 0;day;");
            c.due("taken up", x.wagon(0, 4), -1);
            c.due("left", x.wagon(1, 4), -1);
        });
        c.test(10, "5 the MILE at which it was LEFT (NONE: it is not)", () -> {
            TownTrain x = Check.told(ONE + "speed 20;");
            c.due("on the train", x.wagon(0, 5), -1);
            Check.work(x, "lay 0 0;");
            c.due("laid", x.wagon(0, 5), -1);
            Check.work(x, "day;");
            c.due("left at mile 0", x.wagon(0, 5), 0);
            Check.work(x, "fetch 0;lay 0 0;day;");
            c.due("left at mile 20", x.wagon(0, 5), 20);
            Check.work(x, "day;");
            c.due("it stays there", x.wagon(0, 5), 20);
        });
        c.test(10, "6 what it needs (bits)", () -> {
            TownTrain x = Check.told(ONE.repeat(8) + "needs 7 0;needs 7 1;needs 7 2;needs 7 3;needs 7 4;needs 7 5;"
                + "needs 7 6;needs 1 0;");
            c.row("needs", w -> x.wagon(w, 6), 0, 1, 0, 0, 0, 0, 0, 127);
        });
        c.test(10, "NoSuchElementException: no such WAGON", () -> {
            c.wagons("wagon", w -> Check.told(ONE.repeat(8)).wagon(w, 0), 8);
            c.wagons("wagon of one", w -> Check.told(ONE).wagon(w, 0), 1);
            c.noElement("no wagons", () -> new TownTrain().wagon(0, 0));
        });
        c.test(10, "(so below, ahead of others)", () -> {
            TownTrain x = Check.told(ONE);
            c.noElement("both are wrong", () -> x.wagon(1, 7));
            c.noElement("both are wrong", () -> x.wagon(-1, -1));
            c.range("what", what -> x.wagon(0, what), 0, 6);
        });
    }

    private static void stands() {
        c.test(11, "The WAGON that is laid in a CELL (0 to 11); NONE", () -> {
            TownTrain x = Check.told(ONE.repeat(8));
            Check.work(x, "lay 7 0;lay 0 11;");
            c.row("stands", x::stands, 7, -1, -1, -1, -1, -1, -1, -1, -1, -1, -1, 0);
            Check.work(x, "take 7;");
            c.due("taken up", x.stands(0), -1);
            Check.work(x, "day;");
            c.due("left", x.stands(11), -1);
        });
        c.test(11, "IllegalArgumentException: no such CELL", () -> {
            TownTrain x = Check.told(ONE);
            c.range("stands", x::stands, 0, 11);
        });
    }

    private static void lasts() {
        c.test(14, "LASTS of a WAGON in a CELL, as all is now", () -> {
            TownTrain x = Check.told("wagon 6 9 5;wagon 2 1 0;ground 0 9;ground 11 3;hours 24;");
            c.due("in the first cell", x.lasts(0, 0), 9);
            c.due("in the last cell", x.lasts(1, 11), 3);
            Check.law(x, "day*10+near");
            c.due("at least 1", x.lasts(1, 4), 1);
            Check.work(x, "day;lay 0 3;");
            c.due("near one, on a later day", x.lasts(1, 4), 11);
            Check.work(x, "day;");
            c.due("no more near", x.lasts(1, 4), 20);
            Check.work(x, "day;");
            c.due("at most 24", x.lasts(1, 4), 24);
        });
        c.test(14, "(also if it is not on the train)", () -> {
            TownTrain x = Check.told("wagon 2 1 0;ground 4 6;");
            Check.work(x, "lay 0 3;");
            c.due("laid", x.lasts(0, 4), 4);
            c.due("in its own cell", x.lasts(0, 3), 2);
            Check.work(x, "day;");
            c.due("left", x.lasts(0, 4), 4);
        });
        c.test(14, "each WAGON in each CELL, the first and the last, too", () -> {
            StringBuilder text = new StringBuilder("hours 24;");
            for (int w = 0; w < 8; w++) {
                text.append("wagon ").append(w % 6 + 1).append(" 1 0;");
            }
            TownTrain x = Check.told(text + "ground 1 3;ground 11 9;");
            for (int turn = 0; turn < 2; turn++) {
                for (int w = 0; w < 8; w++) {
                    int h = w % 6 + 1;
                    int each = w;
                    c.row("wagon " + w, cell -> x.lasts(each, cell), h, h + 1, h, h, h, h, h, h, h, h, h, h + 3);
                }
            }
            Check.law(x, "hours+near*7");
            Check.work(x, "lay 0 1;lay 7 10;lay 1 8;");
            for (int w = 7; w >= 0; w--) {
                int h = w % 6 + 1;
                int each = w;
                c.row("near, wagon " + w, cell -> x.lasts(each, cell),
                    h + 7, h, h + 7, h, h, h, h, h + 7, h, h + 14, h, h + 7);
            }
        });
        c.test(14, "whatever else keeps it from being laid", () -> {
            TownTrain x = Check.told("wagon 4 1 0;wagon 5 1 0;needs 1 0;hours 1;");
            c.due("too few hours", x.lasts(0, 0), 4);
            c.due("what it needs is not laid", x.lasts(1, 0), 5);
        });
        c.test(14, "NoSuchElementException, ahead of IllegalArgumentException", () -> {
            TownTrain x = Check.told(ONE.repeat(2));
            c.wagons("lasts", w -> x.lasts(w, 0), 2);
            c.range("cell", cell -> x.lasts(1, cell), 0, 11);
            c.noElement("both are wrong", () -> x.lasts(2, 12));
            c.noElement("both are wrong", () -> x.lasts(-1, -1));
        });
    }

    private static void would() {
        c.test(15, "such hours (1 to 6)", () -> range15(v -> new int[] {v, 1, 0, 0, 0, 0}, 1, 6));
        c.test(15, "weight (1 to 9)", () -> range15(v -> new int[] {1, v, 0, 0, 0, 0}, 1, 9));
        c.test(15, "kind (0 to 5)", () -> range15(v -> new int[] {1, 1, v, 0, 0, 0}, 0, 5));
        c.test(15, "ground (0 to 9)", () -> range15(v -> new int[] {1, 1, 0, v, 0, 0}, 0, 9));
        c.test(15, "near (0 to 2)", () -> range15(v -> new int[] {1, 1, 0, 0, v, 0}, 0, 2));
        c.test(15, "frost (0, 1)", () -> range15(v -> new int[] {1, 1, 0, 0, 0, v}, 0, 1));
        c.test(15, "CELL 0, DAY 0", () -> {
            TownTrain x = Check.told(ONE.repeat(2) + "ground 0 9;");
            Check.work(x, "day;day;lay 0 1;");
            Check.law(x, "cell*5+day*3+2");
            c.due("by cell and day", x.would(1, 1, 0, 0, 0, 0), 2);
            Check.law(x, "ground+near*10+1");
            c.due("ground and near are as told, not as they are", x.would(1, 1, 0, 3, 2, 0), 24);
            c.due("none", x.would(1, 1, 0, 0, 0, 0), 1);
            c.due("of no wagon told", new TownTrain().would(3, 1, 0, 0, 0, 0), 3);
        });
        c.test(15, "would changes nothing of what lasts tells", () -> {
            TownTrain x = Check.told("wagon 2 1 0;");
            c.due("would", x.would(6, 1, 0, 9, 0, 0), 9);
            c.due("lasts", x.lasts(0, 0), 2);
            c.due("would again", x.would(5, 1, 0, 0, 0, 0), 5);
        });
    }

    private interface Arguments {
        int[] by(int value);
    }

    private static void range15(Arguments a, int least, int most) {
        TownTrain x = new TownTrain();
        c.range("would", v -> {
            int[] w = a.by(v);
            return x.would(w[0], w[1], w[2], w[3], w[4], w[5]);
        }, least, most);
    }

    private static void can() {
        c.test(16, "Whether a WAGON could be laid in a CELL now", () -> {
            TownTrain x = Check.told("wagon 3 1 0;wagon 2 1 0;wagon 3 1 0;needs 2 0;hours 5;");
            c.due("it could", yes(x.can(0, 0)), 1);
            c.due("in the last cell, too", yes(x.can(0, 11)), 1);
            c.due("what it needs is not laid", yes(x.can(2, 0)), 0);
            Check.work(x, "lay 0 4;");
            c.due("it is laid", yes(x.can(0, 0)), 0);
            c.due("the cell is taken", yes(x.can(1, 4)), 0);
            c.due("hours are just enough", yes(x.can(1, 0)), 1);
            c.due("one hour too few", yes(x.can(2, 0)), 0);
            Check.work(x, "day;");
            c.due("it is left", yes(x.can(0, 0)), 0);
            c.due("what it needs is left", yes(x.can(2, 0)), 0);
            c.due("nothing stays changed", x.told(6), 0);
        });
        c.test(16, "by ground, an HOUR more or less", () -> {
            TownTrain x = Check.told("wagon 1 1 0;ground 0 9;ground 1 8;hours 3;");
            c.due("4 hours", yes(x.can(0, 0)), 0);
            c.due("3 hours", yes(x.can(0, 1)), 1);
        });
        c.test(16, "NoSuchElementException, ahead of IllegalArgumentException", () -> {
            TownTrain x = Check.told(ONE.repeat(2));
            c.wagons("can", w -> yes(x.can(w, 0)), 2);
            c.range("cell", cell -> yes(x.can(1, cell)), 0, 11);
            c.noElement("both are wrong", () -> yes(x.can(2, 12)));
        });
    }

    private static void behind() {
        c.test(27, "MILES a WAGON is behind (0: it is not LEFT)", () -> {
            TownTrain x = Check.told(ONE + "speed 20;");
            c.due("on the train", x.behind(0), 0);
            Check.work(x, "day;lay 0 0;");
            c.due("laid", x.behind(0), 0);
            Check.work(x, "day;");
            c.due("one day", x.behind(0), 20);
            Check.work(x, "day;day;");
            c.due("three days", x.behind(0), 60);
            Check.work(x, "fetch 0;");
            c.due("fetched", x.behind(0), 0);
        });
        c.test(27, "as far as it may be behind", () -> {
            TownTrain x = Check.told(ONE + "speed 20;");
            Check.work(x, "lay 0 0;again 19[" + "day;".repeat(10) + "];");
            Check.work(x, "again 20[day;];");
            c.due("200 days", x.behind(0), 4000);
        });
        c.test(27, "NoSuchElementException", () -> {
            TownTrain x = Check.told(ONE.repeat(2));
            c.wagons("behind", x::behind, 2);
            c.noElement("no wagons", () -> new TownTrain().behind(0));
        });
    }
}
