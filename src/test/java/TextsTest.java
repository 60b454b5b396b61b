/** Promises 1 to 7: a new object, the tape, and the four kinds of text with their faults. */
public final class TextsTest {
    private static final Check c = new Check();

    public static void main(String[] args) {
        newObject();
        tape();
        texts();
        tokens();
        clauses();
        limits();
        laws();
        works();
        books();
        faultsKeepAll();
        c.end("TextsTest");
    }

    private static void newObject() {
        TownTrain x = new TownTrain();
        c.due("NONE", TownTrain.NONE, -1);
        int[] want = {0, 0, 0, 0, 0, 8, 0, 0, 0, 0};
        for (int what = 0; what < want.length; what++) {
            c.due("new told " + what, x.told(what), want[what]);
        }
        c.due("new fault", x.fault(), -1);
        for (int what = 0; what < 3; what++) {
            c.due("new count " + what, x.count(what), 0);
        }
        c.due("new status", x.status(0) + x.status(1), 0);
    }

    private static void tape() {
        TownTrain x = new TownTrain();
        for (int i = 1; i <= 30; i++) {
            c.due("feed " + i, x.feed(0, 0, 0, 0, 0), 20 * i);
        }
        c.due("feed beyond", x.feed(0, 0, 0, 0, 0), -1);
        c.due("bytes", x.count(1), 600);
        c.badArgument("train(601)", () -> x.train(601));
        c.due("tape stays", x.count(1), 600);
        c.badArgument("law(151)", () -> x.law(151));
        c.badArgument("work(151)", () -> x.work(151));
        c.badArgument("book(61)", () -> x.book(61));
        c.badArgument("train(-1)", () -> x.train(-1));
        c.due("tape stays still", x.count(1), 600);
        c.due("train of zeros", x.train(600), -9);
        c.due("tape empty behind a fault", x.count(1), 0);
        c.due("place", x.fault(), 0);
        c.badArgument("train(1) of nothing", () -> x.train(1));
        c.due("fault stays", x.fault(), 0);
        c.due("status", x.status(1), 6);
        // highest byte first, over all five numbers
        c.due("feed", x.feed(0x67616e67, 0x20333b67, 0x616e6720, 0x313b6672, 0x6f737434), 20);
        c.due("feed", x.feed(0x3b000000, 0, 0, 0, 0), 40);
        c.due("train by numbers", x.train(21), 0);
        c.due("its gangs", x.told(1), 2);
        c.due("its frost", x.mild(1, 0), 3);
        c.due("tape empty", x.count(1), 0);
        // bytes of 128 and more must not stick to the others
        x.feed(0xffffffff, 0xffffffff, 0xffffffff, 0xffffffff, 0xffffffff);
        c.due("bytes of 255", x.law(20), -9);
    }

    private static void texts() {
        c.trainText("", 0, -1);
        c.trainText("   ", 0, -1);
        c.bookText("", 0, -1);
        c.bookText("  ", 0, -1);
        c.workText("", "", 0, -1);
        c.workText("", "  ", 0, -1);
        c.lawText("", -9, 0);
        c.lawText("  ", -9, 2);
        c.lawText(" 7 ", 1, -1);
    }

    private static void tokens() {
        c.trainText("wagon1 1 0;", 1, -1);
        c.trainText("  wagon  1   01 000 ; ", 1, -1);
        c.trainText("wagon 110;", -8, 6);
        c.trainText("wagonwagon 1 1 0;", -9, 0);
        c.trainText("wago", -9, 0);
        c.trainText("frostz 4;", -9, 0);
        c.trainText("afrost 4;", -9, 0);
        c.trainText("Wagon 1 1 0;", -9, 0);
        c.trainText("wagon 1 1 0", -9, 11);
        c.trainText("wagon 1 1 0  ", -9, 13);
        c.trainText("wagon 1 1 0 5;", -9, 12);
        c.trainText("wagon 1 1 0tie", -9, 11);
        c.trainText("wagon 1 x 0;", -9, 8);
        c.trainText("wagon 1 ;", -9, 8);
        c.trainText(";", -9, 0);
        c.trainText("frost 4;;", -9, 8);
        c.trainText("frost 99999999999999999999;", -8, 6);
        c.trainText("frost 4294967296;", -8, 6);
        c.trainText("frost 00000000000000000016;", 0, -1);
        c.trainText("frost 4;7", -9, 8);
        c.trainText("frost 4;\tfrost 4;", -9, 8);
        c.trainText("frost -1;", -9, 6);
    }

    private static void clauses() {
        c.trainText("wagon 6 9 5;", 1, -1);
        c.trainText("wagon 7 9 5;", -8, 6);
        c.trainText("wagon 0 9 5;", -8, 6);
        c.trainText("wagon 6 0 5;", -8, 8);
        c.trainText("wagon 6 10 5;", -8, 8);
        c.trainText("wagon 6 9 6;", -8, 10);
        String two = "wagon 1 1 0;wagon 1 1 0;";
        c.trainText(two + "tie 0 1 9;", 2, -1);
        c.trainText(two + "tie 2 1 9;", -8, 28);
        c.trainText(two + "tie 0 2 9;", -8, 30);
        c.trainText(two + "tie 1 1 9;", -8, 30);
        c.trainText(two + "tie 0 1 0;", -8, 32);
        c.trainText(two + "tie 0 1 10;", -8, 32);
        c.trainText(two + "needs 1 0;", 2, -1);
        c.trainText(two + "needs 1 1;", -8, 32);
        c.trainText(two + "needs 0 1;", -8, 32);
        c.trainText(two + "needs 2 0;", -8, 30);
        c.trainText("needs 0 0;wagon 1 1 0;", -8, 6);
        c.trainText("ground 11 9;", 0, -1);
        c.trainText("ground 12 9;", -8, 7);
        c.trainText("ground 11 10;", -8, 10);
        c.trainText("hours 1;hours 24;", 0, -1);
        c.trainText("hours 0;", -8, 6);
        c.trainText("hours 25;", -8, 6);
        c.trainText("speed 1;speed 20;", 0, -1);
        c.trainText("speed 21;", -8, 6);
        c.trainText("gang 1;gang 2;gang 3;", 0, -1);
        c.trainText("gang 0;", -8, 5);
        c.trainText("voter 2 1 0;voter 0 2 1;", 0, -1);
        c.trainText("voter 3 1 0;", -8, 6);
        c.trainText("voter 2 2 0;", -8, 8);
        c.trainText("voter 2 1 2;", -8, 10);
        c.trainText("voter 2 1 1;", -8, 10);
        c.trainText("voter 2 1;", -9, 9);
        c.trainText("well 1;well 200;", 0, -1);
        c.trainText("well 0;", -8, 5);
        c.trainText("well 201;", -8, 5);
        c.trainText("frost 0;frost 16;", 0, -1);
        c.trainText("frost 17;", -8, 6);
    }

    private static void limits() {
        c.trainText("wagon 1 1 0;".repeat(8), 8, -1);
        c.trainText("wagon 1 1 0;".repeat(8) + "wagon", -7, 96);
        c.trainText("gang 1;".repeat(4), 0, -1);
        c.trainText("gang 1;".repeat(4) + " gang 1;", -7, 29);
        c.trainText("voter 0 1 2;".repeat(9), 0, -1);
        c.trainText("voter 0 1 2;".repeat(10), -7, 108);
        c.trainText("well 5;".repeat(8), 0, -1);
        c.trainText("well 5;".repeat(9), -7, 56);
        c.trainText("frost 1;".repeat(60), 0, -1);
        c.trainText("frost 1;".repeat(61), -7, 480);
        c.trainText("frost 1;".repeat(60) + "frosty", -9, 480);
        c.trainText("frost 1;".repeat(60) + "9", -9, 480);
        c.trainText("frost 1;".repeat(60) + "   ", 0, -1);
    }

    private static void laws() {
        c.lawText("hours+weight*kind-cell/ground", 1, -1);
        c.lawText("day+near+frost", 1, -1);
        c.lawText("least[1,most[2,(3)]]", 1, -1);
        c.lawText(" least [ 1 , 2 ] ", 1, -1);
        c.lawText("999", 1, -1);
        c.lawText("1000", -8, 0);
        c.lawText("1+1000", -8, 2);
        c.lawText("1 1", -9, 2);
        c.lawText("3hours", -9, 1);
        c.lawText("-1", -9, 0);
        c.lawText("1+", -9, 2);
        c.lawText("1+ ", -9, 3);
        c.lawText("1+*2", -9, 2);
        c.lawText("(1", -9, 2);
        c.lawText("(1]", -9, 2);
        c.lawText("1)", -9, 1);
        c.lawText("()", -9, 1);
        c.lawText("least(1,2)", -9, 5);
        c.lawText("least[1]", -9, 7);
        c.lawText("least[1,2)", -9, 9);
        c.lawText("most[1,2,3]", -9, 8);
        c.lawText("speed", -9, 0);
        c.lawText("((((((1))))))", 1, -1);
        c.lawText("((((((1))))))+((((((1))))))", 1, -1);
        c.lawText("((((((1)+(2))))))+1", 1, -1);
        c.lawText("(((((((1)))))))", -7, 6);
        c.lawText("((((((least[1,2]))))))", -7, 6);
        c.lawText("((((((1+most", -7, 8);
        c.lawText("least[0,least[0,least[0,most[0,most[0,most[0,1]]]]]]", 1, -1);
        c.lawText("least[0,least[0,least[0,most[0,most[0,most[0,(1)]]]]]]", -7, 45);
        c.lawText("1" + "+1".repeat(74), 1, -1);
        TownTrain x = new TownTrain();
        Check.put(x, "1" + "+1".repeat(75));
        c.badArgument("law of 151", () -> x.law(151));
        c.badArgument("work of 151", () -> x.work(151));
        c.badArgument("book of 61", () -> x.book(61));
        c.due("law of 150 of them", x.law(150), -9);
        c.due("its fault", x.fault(), 150);
    }

    private static void works() {
        String two = "wagon 1 1 0;wagon 1 1 0;";
        c.workText(two, "lay 0 0;lay 1 11;", 2, -1);
        c.workText(two, "lay 2 0;", -8, 4);
        c.workText(two, "lay 0 12;", -8, 6);
        c.workText(two, "lay 0;", -9, 5);
        c.workText(two, "take 2;", -8, 5);
        c.workText(two, "fetch 2;", -8, 6);
        c.workText(two, "day", -9, 3);
        c.workText(two, "day 1;", -9, 4);
        c.workText(two, "again 20[day;];", 20, -1);
        c.workText(two, "again0[];", 0, -1);
        c.workText(two, "again 21[];", -8, 6);
        c.workText(two, "again [];", -9, 6);
        c.workText(two, "again 2 day;", -9, 8);
        c.workText(two, "again 2[day];", -9, 11);
        c.workText(two, "again 2[day;]", -9, 13);
        c.workText(two, "again 2[day;", -9, 12);
        c.workText(two, "again 2[day; ", -9, 13);
        c.workText(two, "];", -9, 0);
        c.workText(two, "day;];", -9, 4);
        c.workText(two, "again 1 [ day ; ] ;", 1, -1);
        c.workText(two, "again 1[".repeat(6) + "];".repeat(6), 0, -1);
        c.workText(two, "again 1[".repeat(6) + "again", -7, 48);
        c.workText(two, "again 1[".repeat(6) + "day;];" + "];".repeat(5) + "again 1[];", 1, -1);
        c.workText(two, "lays 0 0;", -9, 0);
        c.workText("", "lay 0 0;", -8, 4);
        c.workText("", "take 0;", -8, 5);
    }

    private static void books() {
        c.bookText("0 0;11 6;", 2, -1);
        c.bookText("12 0;", -8, 0);
        c.bookText("0 7;", -8, 2);
        c.bookText("0 0;0 0;", -8, 4);
        c.bookText("0 0", -9, 3);
        c.bookText("x 0;", -9, 0);
        c.bookText("0 x;", -9, 2);
        c.bookText("0;", -9, 1);
        c.bookText(";", -9, 0);
        String eight = "0 0;1 0;2 0;3 0;4 0;5 0;6 0;7 0;";
        c.bookText(eight, 8, -1);
        c.bookText(eight + " ", 8, -1);
        c.bookText(eight + "8 0;", -7, 32);
        c.bookText(eight + "7 0;", -8, 32);
        c.bookText(eight + "12 0;", -8, 32);
        c.bookText(eight + "day", -9, 32);
        c.bookText(eight + " ".repeat(28), 8, -1);
    }

    private static void faultsKeepAll() {
        TownTrain x = Check.told("wagon 2 3 4;wagon 1 1 1;gang 2;hours 9;");
        Check.law(x, "2");
        Check.book(x, "3 4;");
        Check.work(x, "lay 0 3;lay 0 4;lay 0 5;");
        x.image();
        c.due("bad train", Check.train(x, "gang 1;gang 9;"), -8);
        c.due("bad law", Check.law(x, "3+"), -9);
        c.due("bad book", Check.book(x, "1 1;1 2;"), -8);
        c.due("bad work", Check.work(x, "day;day"), -9);
        c.due("place", x.fault(), 7);
        int[] want = {2, 1, 0, 0, 0, 7, 1, 0, 1, 2};
        for (int what = 0; what < want.length; what++) {
            c.due("kept told " + what, x.told(what), want[what]);
        }
        c.due("kept law", x.would(6, 1, 0, 9, 0, 0), 2);
        c.due("kept images", x.count(0), 1);
        c.due("kept works", x.count(2), 1);
        c.due("good text", Check.train(x, "wagon 3 3 3;"), 1);
        c.due("no fault now", x.fault(), -1);
        int[] anew = {1, 0, 0, 0, 0, 8, 0, 0, 0, 0};
        for (int what = 0; what < anew.length; what++) {
            c.due("anew told " + what, x.told(what), anew[what]);
        }
        c.due("law anew", x.would(6, 1, 0, 9, 0, 0), 9);
        c.due("images anew", x.count(0), 0);
        c.due("works anew", x.count(2), 0);
        c.due("nothing to undo", x.undo(), -1);
        c.due("nothing to restore", x.restore(), -1);
    }
}
