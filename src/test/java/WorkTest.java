/** Promises 4, 5, 8 to 11, 14 to 16, 27, 42, 43, 45: work, what it changes, and the ways back. */
public final class WorkTest {
    private static final Check c = new Check();
    private static final String TOWN = "wagon 2 5 0;wagon 1 9 1;wagon 3 2 0;wagon 4 4 5;needs 2 0;needs 3 1;"
        + "needs 3 2;needs 3 2;hours 10;speed 4;ground 0 6;ground 2 3;";

    public static void main(String[] args) {
        wagons();
        laws();
        laying();
        takingUp();
        fetching();
        days();
        loops();
        undoing();
        manyWorks();
        images();
        imagesShareNothing();
        c.end("WorkTest");
    }

    private static void wagons() {
        TownTrain x = Check.told(TOWN);
        int[] want = {4, 4, 5, 0, -1, -1, 6};
        for (int what = 0; what < want.length; what++) {
            c.due("wagon 3, " + what, x.wagon(3, what), want[what]);
        }
        Check.work(x, "lay 1 7;day;");
        int[] left = {1, 9, 1, 2, -1, 0, 0};
        for (int what = 0; what < left.length; what++) {
            c.due("left wagon 1, " + what, x.wagon(1, what), left[what]);
        }
    }

    private static void law(TownTrain x, String text, int want) {
        c.due("law '" + text + "'", Check.law(x, text), 1);
        c.due("lasts by '" + text + "'", x.would(6, 9, 5, 8, 2, 1), want);
    }

    private static void laws() {
        TownTrain x = new TownTrain();
        c.due("usual", x.would(6, 9, 5, 8, 2, 1), 8);
        law(x, "weight", 9);
        law(x, "kind*2", 10);
        law(x, "cell+5", 5);
        law(x, "day+4", 4);
        law(x, "near*10", 20);
        law(x, "frost+1", 2);
        law(x, "0", 1);
        law(x, "2-9", 1);
        law(x, "25", 24);
        law(x, "24", 24);
        law(x, "20-5-3", 12);
        law(x, "20-(5-3)", 18);
        law(x, "2+3*4", 14);
        law(x, "(2+3)*4", 20);
        law(x, "100/5/4", 5);
        law(x, "100/(5/4)/10", 10);
        law(x, "7/2*3", 9);
        law(x, "5+7/0", 5);
        law(x, "5+7/(3-3)", 5);
        law(x, "9+(0-7)/2", 6);
        law(x, "least[7,9]+most[3,5]", 12);
        law(x, "least[9,7]+most[5,3]", 12);
        law(x, "least[most[1,2],most[3,4]]", 2);
        // 999^4 is 996,005,996,001, by 32 bits -426,416,671
        law(x, "7+999*999*999*999/999/999/100", 3);
        law(x, "999*999*999*999", 1);
        // 512^3 times 16 is 2^31, which wraps to the least number, and that by -1 is itself
        law(x, "512*512*512*16/(0-1)", 1);
        law(x, "512*512*512*16/(0-1)-1", 24);
        TownTrain y = Check.told("wagon 1 1 0;wagon 2 3 4;ground 5 7;hours 24;");
        Check.law(y, "cell+near*10+day");
        c.due("by cell", y.lasts(1, 5), 5);
        Check.work(y, "day;lay 0 4;");
        c.due("by cell, day, near", y.lasts(1, 5), 16);
        c.due("beside itself", y.lasts(0, 3), 14);
        c.due("in its own cell", y.lasts(0, 4), 5);
        c.due("at the edge", y.lasts(1, 0), 1);
        c.due("at the other edge", y.lasts(1, 11), 12);
        Check.law(y, "ground*2+weight-kind");
        c.due("by ground", y.lasts(1, 5), 13);
        c.due("by no ground", y.lasts(1, 6), 1);
        TownTrain z = Check.told("wagon 1 1 0;wagon 1 1 0;wagon 1 1 0;");
        Check.law(z, "1+near");
        Check.work(z, "lay 0 3;lay 1 5;");
        c.due("between two", z.lasts(2, 4), 3);
    }

    private static void laying() {
        TownTrain x = Check.told(TOWN);
        c.due("can lay 0", x.can(0, 0) ? 1 : 0, 1);
        c.due("can't lay 2 ahead of 0", x.can(2, 1) ? 1 : 0, 0);
        c.due("work", Check.work(x, "lay 2 5;lay 0 0;lay 2 5;lay 1 5;lay 1 2;lay 0 1;lay 3 7;"), 3);
        c.due("refused", x.told(9), 4);
        c.due("hours left", x.told(5), 10 - 4 - 3 - 2);
        c.due("laid", x.told(6), 3);
        c.due("stands 0", x.stands(0), 0);
        c.due("stands 2", x.stands(2), 1);
        c.due("stands 5", x.stands(5), 2);
        c.due("stands 7", x.stands(7), -1);
        c.due("cell of 2", x.wagon(2, 4), 5);
        c.due("place of 2", x.wagon(2, 3), 1);
        c.due("no hours for 3", x.can(3, 7) ? 1 : 0, 0);
        c.due("not on the train", x.can(0, 7) ? 1 : 0, 0);
        c.due("lasts of one that is laid", x.lasts(0, 2), 3);
        TownTrain y = Check.told("wagon 6 1 0;wagon 2 1 0;wagon 1 1 0;");
        c.due("exactly the hours", Check.work(y, "lay 0 0;lay 1 1;lay 2 2;"), 2);
        c.due("none left", y.told(5), 0);
    }

    private static void takingUp() {
        TownTrain x = Check.told(TOWN);
        c.due("work", Check.work(x, "lay 0 3;lay 2 4;take 0;take 2;take 0;take 0;take 1;"), 4);
        c.due("refused", x.told(9), 3);
        c.due("hours", x.told(5), 10 - 2 - 3 - 1 - 1);
        c.due("laid", x.told(6), 0);
        c.due("empty", x.stands(3), -1);
        c.due("on the train", x.wagon(0, 3), 0);
        TownTrain needed = Check.told(TOWN);
        c.due("needed by one that is laid", Check.work(needed, "lay 0 3;lay 2 4;take 0;"), 2);
        c.due("it stays laid", needed.stands(3), 0);
        c.due("hours stay", needed.told(5), 5);
        TownTrain last = Check.told("wagon 1 1 0;".repeat(8) + "needs 7 6;hours 24;");
        c.due("needed by the last", Check.work(last, "lay 6 0;lay 7 1;take 6;"), 2);
        c.due("not needed any more", Check.work(last, "take 7;take 6;"), 2);
        TownTrain y = Check.told("wagon 1 1 0;wagon 5 1 0;hours 8;");
        c.due("take", Check.work(y, "lay 1 0;lay 0 1;take 1;take 0;"), 3);
        c.due("hours of half of 5", y.told(5), 0);
        TownTrain z = Check.told("wagon 6 1 0;hours 8;");
        c.due("too few hours", Check.work(z, "lay 0 0;take 0;"), 1);
        c.due("it stays", z.stands(0), 0);
    }

    private static void fetching() {
        TownTrain x = Check.told("wagon 1 1 0;hours 4;speed 10;");
        c.due("laid, left", Check.work(x, "lay 0 3;day;"), 2);
        c.due("behind", x.behind(0), 10);
        c.due("left", x.told(7), 1);
        c.due("fetched", Check.work(x, "take 0;lay 0 3;fetch 0;fetch 0;"), 1);
        c.due("hours for 10 miles", x.told(5), 2);
        c.due("not behind", x.behind(0), 0);
        c.due("left none", x.told(7), 0);
        TownTrain y = Check.told("wagon 1 1 0;hours 4;speed 11;");
        Check.work(y, "lay 0 3;day;fetch 0;");
        c.due("hours for 11 miles", y.told(5), 1);
        TownTrain z = Check.told("wagon 1 1 0;hours 4;speed 20;");
        Check.work(z, "lay 0 3;day;day;");
        c.due("behind", z.behind(0), 40);
        c.due("mile of it", z.wagon(0, 5), 0);
        c.due("too far", Check.work(z, "fetch 0;"), 0);
        TownTrain u = Check.told("wagon 1 1 0;hours 4;speed 15;");
        c.due("all hours", Check.work(u, "day;lay 0 3;day;day;fetch 0;"), 5);
        c.due("no hour left", u.told(5), 0);
    }

    private static void days() {
        TownTrain x = Check.told("wagon 1 1 3;hours 5;speed 7;");
        c.due("work", Check.work(x, "day;lay 0 3;day;"), 3);
        c.due("day", x.told(3), 2);
        c.due("mile", x.told(4), 14);
        c.due("hours", x.told(5), 5);
        c.due("left at", x.wagon(0, 5), 7);
        c.due("nothing stands", x.stands(3), -1);
        c.due("stood 0", x.stood(0, 3), 6);
        c.due("stood 1", x.stood(1, 3), 3);
        c.due("stood 2", x.stood(2, 3), -1);
        // one is begun, then 12 a turn: 16 turns, and of the next one 7
        c.due("200 steps", Check.work(x, "again 18[again 11[day;];];"), 16 * 11 + 6);
        c.due("day", x.told(3), 184);
        c.due("to the last", Check.work(x, "again 20[day;];"), 16);
        c.due("refused on day 200", x.told(9), 4);
        c.due("day 200", x.told(3), 200);
        c.due("mile", x.told(4), 1400);
        c.due("noted", x.stood(11, 0), 6);
    }

    private static void loops() {
        TownTrain x = Check.told("wagon 1 1 0;");
        c.due("no time", Check.work(x, "again 0[day;];"), 0);
        c.due("nested", Check.work(x, "again 2[again 3[day;];day;];day;"), 9);
        c.due("day", x.told(3), 9);
        c.due("199 of 200, 8 of them on the last day", Check.work(x, "again 20[day;day;day;day;day;day;day;day;day;day;];"), 191);
        c.due("refused ones count", x.told(9), 8);
        TownTrain y = Check.told("wagon 1 1 0;");
        c.due("agains are begun, too", Check.work(y, "again 20[again 20[];];day;"), 1);
        String begins199 = "again 18[" + "again 1[];".repeat(10) + "take 0;];";
        TownTrain z = Check.told("wagon 1 1 0;");
        c.due("199 ahead", Check.work(z, begins199 + "day;"), 1);
        c.due("18 refused", z.told(9), 18);
        TownTrain u = Check.told("wagon 1 1 0;");
        c.due("200 ahead", Check.work(u, "take 0;" + begins199 + "day;"), 0);
        c.due("19 refused", u.told(9), 19);
        c.due("no day", u.told(3), 0);
    }

    private static void undoing() {
        TownTrain x = Check.told(TOWN);
        Check.work(x, "lay 0 3;lay 0 3;");
        Check.work(x, "lay 1 4;day;day;fetch 0;fetch 0;");
        c.due("refused", x.told(9), 1);
        c.due("works", x.count(2), 2);
        c.due("a fault is no work", Check.work(x, "day"), -9);
        c.due("works", x.count(2), 2);
        c.due("undo", x.undo(), 1);
        c.due("refused behind undo", x.told(9), 0);
        c.due("fault stays", x.fault(), 3);
        c.due("day", x.told(3), 0);
        c.due("mile", x.told(4), 0);
        c.due("hours", x.told(5), 8);
        c.due("stands", x.stands(3), 0);
        c.due("not noted", x.stood(0, 3), -1);
        c.due("undo", x.undo(), 0);
        c.due("laid", x.told(6), 0);
        c.due("hours", x.told(5), 10);
        c.due("no more", x.undo(), -1);
        c.due("law is not undone", Check.law(x, "9"), 1);
        c.due("nothing to undo", x.undo(), -1);
        c.due("law stays", x.would(1, 1, 0, 0, 0, 0), 9);
    }

    private static void manyWorks() {
        TownTrain x = Check.told("wagon 1 1 0;");
        for (int i = 0; i < 16; i++) {
            c.due("work " + i, Check.work(x, "day;"), 1);
        }
        c.due("bad text", Check.law(x, "+"), -9);
        Check.put(x, "take 0;");
        c.badArgument("the tape has not so much", () -> x.work(21));
        c.due("tape stays", x.count(1), 20);
        c.due("a 17th", x.work(7), -20);
        c.due("tape is empty", x.count(1), 0);
        c.due("no fault", x.fault(), -1);
        c.due("day", x.told(3), 16);
        c.due("a 17th that is bad", Check.work(x, "bad"), -20);
        c.due("no fault", x.fault(), -1);
        c.due("undo", x.undo(), 15);
        c.due("works again", Check.work(x, "take 0;"), 0);
        c.due("works", x.count(2), 16);
        for (int left = 15; left >= 0; left--) {
            c.due("undo to " + left, x.undo(), left);
            c.due("day by undo", x.told(3), left);
        }
        c.due("undo", x.undo(), -1);
    }

    private static void images() {
        TownTrain x = Check.told(TOWN);
        c.due("none", x.restore(), -1);
        c.due("image", x.image(), 1);
        Check.work(x, "lay 0 3;day;take 0;");
        c.due("restore of none keeps", x.told(9), 1);
        c.due("image", x.image(), 2);
        Check.work(x, "day;take 0;take 0;");
        c.due("image", x.image(), 3);
        c.due("a 4th", x.image(), -1);
        c.due("images", x.count(0), 3);
        x.undo();
        x.undo();
        c.due("undone", x.told(3), 0);
        c.due("restore", x.restore(), 2);
        c.due("day", x.told(3), 2);
        c.due("works", x.count(2), 2);
        c.due("refused behind restore", x.told(9), 0);
        c.due("undo", x.undo(), 1);
        c.due("day", x.told(3), 1);
        c.due("restore", x.restore(), 1);
        c.due("day", x.told(3), 1);
        c.due("stood", x.stood(0, 3), 0);
        c.due("left", x.wagon(0, 3), 2);
        c.due("restore", x.restore(), 0);
        c.due("day", x.told(3), 0);
        c.due("works", x.count(2), 0);
        c.due("stood", x.stood(0, 3), -1);
        c.due("none left", x.restore(), -1);
        Check.work(x, "take 0;");
        c.due("a restore of none is no restore", x.restore(), -1);
        c.due("refused stay", x.told(9), 1);
        for (int what = -2; what < 5; what++) {
            if (what < 0 || what > 2) {
                c.due("count " + what, x.count(what), -1);
            }
        }
    }

    /** An image keeps its notes and works, whatever is undone and done anew behind it. */
    private static void imagesShareNothing() {
        TownTrain x = Check.told("wagon 1 1 2;wagon 1 1 4;");
        Check.work(x, "lay 0 3;day;");
        Check.work(x, "lay 1 5;day;");
        x.image();
        Check.law(x, "2");
        Check.book(x, "3 2;");
        x.undo();
        x.undo();
        Check.work(x, "lay 1 3;day;");
        Check.work(x, "day;");
        Check.work(x, "fetch 1;");
        c.due("stood anew", x.stood(0, 3), 4);
        c.due("restore", x.restore(), 0);
        c.due("stood as in the image", x.stood(0, 3), 2);
        c.due("stood on the second", x.stood(1, 5), 4);
        c.due("works", x.count(2), 2);
        c.due("law stays", x.would(6, 1, 0, 9, 0, 0), 2);
        c.due("book stays", x.told(8), 1);
        c.due("undo", x.undo(), 1);
        c.due("left", x.told(7), 1);
        c.due("undo", x.undo(), 0);
        c.due("left", x.told(7), 0);
    }
}
