/** Promises 1 to 3 at their edges: a test for each piece of the document that names one. */
public final class EdgesOfTrainTest {
    private static final Check c = new Check();
    private static final String TWO = "wagon 1 1 0;wagon 1 1 0;";

    public static void main(String[] args) {
        newObject();
        feeding();
        firstBytes();
        whatATrainClears();
        whatAFaultKeeps();
        refusedLengths();
        lengthsAndNumbers();
        wagons();
        ties();
        needs();
        ground();
        hoursAndSpeed();
        gangsAndVoters();
        wells();
        frost();
        c.end("EdgesOfTrainTest", 1, 2, 3);
    }

    private static void newObject() {
        c.test(1, "A TRAIN without CLAUSES", () -> {
            TownTrain x = new TownTrain();
            c.row("told", x::told, 0, 0, 0, 0, 0, 8, 0, 0, 0, 0);
            c.noElement("no wagon", () -> x.wagon(0, 0));
            c.row("ground", x::ground, 0, 0, 0, 0, 0, 0, 0, 0, 0, 0, 0, 0);
            c.row("stands", x::stands, -1, -1, -1, -1, -1, -1, -1, -1, -1, -1, -1, -1);
            c.due("speed 5 without", x.overtakes(10, 1, 0), 1);
            c.due("and not less", x.overtakes(9, 1, 0), 2);
            c.due("no well", x.way(6, 1), -1);
            c.due("no line of a book", x.look(0), 0);
            c.due("no voter", x.prefer(0, 1), 0);
            c.due("frost 0 without", x.mild(8, 1), 1);
        });
        c.test(1, "without: hours + ground / 3", () -> {
            TownTrain x = new TownTrain();
            c.due("a third is cut", x.would(2, 1, 0, 8, 0, 0), 4);
            c.due("a whole third", x.would(2, 1, 0, 9, 0, 0), 5);
            c.due("the largest", x.would(6, 9, 5, 9, 2, 1), 9);
            c.due("the least", x.would(1, 9, 5, 0, 2, 1), 1);
        });
        c.test(1, "no LAW, BOOK, IMAGES, nothing to undo", () -> {
            TownTrain x = new TownTrain();
            c.row("count", x::count, 0, 0, 0);
            c.due("fault", x.fault(), -1);
            c.due("undo", x.undo(), -1);
            c.due("restore", x.restore(), -1);
            c.row("status", x::status, 0, 0);
        });
        c.test(1, "NONE = -1", () -> c.due("NONE", TownTrain.NONE, -1));
    }

    private static int feedBlanks(TownTrain x) {
        return x.feed(0x20202020, 0x20202020, 0x20202020, 0x20202020, 0x20202020);
    }

    private static void feeding() {
        c.test(2, "how many there are", () -> {
            TownTrain x = new TownTrain();
            for (int i = 1; i <= 30; i++) {
                c.due("feed " + i, feedBlanks(x), 20 * i);
                c.due("bytes " + i, x.count(1), 20 * i);
            }
        });
        c.test(2, "if there would be more than 600", () -> {
            TownTrain x = new TownTrain();
            for (int i = 1; i <= 29; i++) {
                feedBlanks(x);
            }
            c.due("just 600", feedBlanks(x), 600);
            c.due("one more", feedBlanks(x), -1);
            c.due("and again", feedBlanks(x), -1);
        });
        c.test(2, "NONE, doing nothing", () -> {
            TownTrain x = new TownTrain();
            for (int i = 1; i <= 29; i++) {
                feedBlanks(x);
            }
            Check.put(x, "frost 4;            ");
            c.due("one more", x.feed(-1, -1, -1, -1, -1), -1);
            c.due("the bytes stay as many", x.count(1), 600);
            c.due("and the same", x.train(600), 0);
            c.due("read to the end", x.mild(1, 0), 3);
            c.due("the empty tape takes bytes again", feedBlanks(x), 20);
            c.due("it is no refused call", x.status(0) + x.status(1), 0);
        });
        c.test(2, "Twenty bytes come on the TAPE, of each number the highest first", () -> {
            for (int place = 0; place < 20; place++) {
                int[] n = {0x20202020, 0x20202020, 0x20202020, 0x20202020, 0x20202020};
                n[place / 4] ^= (0x20 ^ 0x7f) << 24 - place % 4 * 8;
                TownTrain x = new TownTrain();
                x.feed(n[0], n[1], n[2], n[3], n[4]);
                c.due("a bad byte at " + place, x.train(20), -9);
                c.due("its place", x.fault(), place);
            }
        });
        c.test(2, "bytes of 128 to 255 stay by themselves", () -> {
            for (int place = 0; place < 4; place++) {
                TownTrain x = new TownTrain();
                int bad = 0xff << 24 - place * 8;
                x.feed(0x20202020 & ~bad | bad, 0x20202020, 0x20202020, 0x20202020, 0x20202020);
                c.due("255 at " + place, x.train(20), -9);
                c.due("its place", x.fault(), place);
            }
            TownTrain x = new TownTrain();
            x.feed(Integer.MIN_VALUE, 0, 0, 0, 0);
            c.due("128", x.train(1), -9);
            x.feed(0x20202020 + 0x80, 0, 0, 0, 0);
            c.due("a blank with its high bit", x.train(4), -9);
            c.due("its place", x.fault(), 3);
        });
    }

    private static void firstBytes() {
        c.test(3, "The first n bytes of the TAPE", () -> {
            TownTrain x = new TownTrain();
            Check.put(x, "wagon 1 1 0;junk");
            c.due("what is behind is not read", x.train(12), 1);
            Check.put(x, "wagon 1 1 0;junk");
            c.due("nor less", x.train(11), -9);
            Check.put(x, "wagon 1 1 0;junk");
            c.due("nor is more of it", x.train(13), -9);
            c.due("place", x.fault(), 12);
        });
        c.test(3, "The first n bytes of the TAPE: n cuts a word or a number", () -> {
            TownTrain x = new TownTrain();
            Check.put(x, "frosty 1;");
            c.due("a word that goes on behind", x.train(5), -9);
            c.due("the text ends too early", x.fault(), 5);
            Check.put(x, "frost 1;");
            c.due("half a word", x.train(4), -9);
            c.due("it can't stand there", x.fault(), 0);
            Check.put(x, "frost 16;");
            c.due("half a number", x.train(7), -9);
            c.due("the text ends too early", x.fault(), 7);
            c.trainText(" ".repeat(595) + "frost", -9, 600);
            c.trainText(" ".repeat(594) + "frosty", -9, 594);
            c.trainText(" ".repeat(593) + "frost 1", -9, 600);
        });
        c.test(3, "the first 0 bytes", () -> {
            TownTrain x = Check.told("wagon 1 1 0;");
            Check.put(x, "wagon 1 1 0;");
            c.due("none", x.train(0), 0);
            c.due("a train without clauses", x.told(0), 0);
            c.due("the tape is empty", x.count(1), 0);
            c.due("none of an empty tape", x.train(0), 0);
        });
        c.test(3, "(empty then)", () -> {
            TownTrain x = new TownTrain();
            Check.put(x, "wagon 1 1 0;wagon 1 1 0;");
            x.train(12);
            c.due("what was not read is gone, too", x.count(1), 0);
            c.badArgument("nothing is there", () -> x.train(1));
            Check.put(x, "bad");
            x.train(3);
            c.due("gone behind a fault, too", x.count(1), 0);
        });
        c.test(3, "how many WAGONS", () -> {
            c.trainText("", 0, -1);
            c.trainText("gang 1;", 0, -1);
            c.trainText("wagon 1 1 0;", 1, -1);
            c.trainText("wagon 1 1 0;".repeat(8), 8, -1);
        });
        c.test(3, "or the FAULT less 10", () -> {
            c.trainText("wagon 1 1;", -9, 9);
            c.trainText("wagon 1 1 6;", -8, 10);
            c.trainText("gang 1;gang 1;gang 1;gang 1;gang 1;", -7, 28);
        });
    }

    /** A train with all that a new one must clear. */
    private static TownTrain used() {
        TownTrain x = Check.told("wagon 2 3 4;wagon 1 1 1;needs 1 0;tie 0 1 5;ground 3 2;gang 2;voter 2 1 0;well 9;"
            + "hours 9;speed 7;frost 4;");
        Check.law(x, "2");
        Check.book(x, "3 4;");
        Check.work(x, "lay 0 3;lay 1 4;lay 1 5;day;");
        Check.work(x, "fetch 0;lay 0 3;lay 0 4;lay 0 5;");
        x.image();
        x.image();
        return x;
    }

    private static void whatATrainClears() {
        c.test(3, "(no LAW", () -> {
            TownTrain x = used();
            c.due("law", x.would(6, 1, 0, 9, 0, 0), 2);
            Check.train(x, "");
            c.due("the usual one", x.would(6, 1, 0, 9, 0, 0), 9);
        });
        c.test(3, "no LAW: hours that were known by the law ahead are not told", () -> {
            TownTrain x = Check.told("wagon 3 1 0;");
            Check.law(x, "7");
            c.due("by the law", x.lasts(0, 0), 7);
            Check.train(x, "wagon 3 1 0;");
            c.due("without", x.lasts(0, 0), 3);
            Check.train(x, "wagon 5 1 0;ground 0 9;");
            c.due("of another wagon", x.lasts(0, 0), 8);
        });
        c.test(3, "BOOK", () -> {
            TownTrain x = used();
            c.due("line", x.told(8), 1);
            Check.train(x, "");
            c.due("no line", x.told(8), 0);
            Check.work(x, "day;");
            c.due("a day fits", x.fits(), 1);
            c.due("look", x.look(0), 0);
        });
        c.test(3, "IMAGES", () -> {
            TownTrain x = used();
            c.due("images", x.count(0), 2);
            Check.train(x, "");
            c.due("none", x.count(0), 0);
            c.due("restore", x.restore(), -1);
            c.due("image", x.image(), 1);
        });
        c.test(3, "nothing to undo", () -> {
            TownTrain x = used();
            c.due("works", x.count(2), 2);
            Check.train(x, "");
            c.due("none", x.count(2), 0);
            c.due("undo", x.undo(), -1);
        });
        c.test(3, "nothing to undo: 16 works are there no more", () -> {
            TownTrain x = new TownTrain();
            for (int i = 0; i < 16; i++) {
                x.work(0);
            }
            c.due("a 17th", x.work(0), -20);
            Check.train(x, "");
            c.due("a first", x.work(0), 0);
            c.due("works", x.count(2), 1);
        });
        c.test(3, "It is DAY 0 at MILE 0 at first, all WAGONS are on the train, all HOURS of the DAY are there", () -> {
            TownTrain x = used();
            c.row("told", x::told, 2, 1, 1, 1, 7, 5, 1, 1, 1, 2);
            Check.train(x, "wagon 1 1 0;wagon 1 1 0;hours 11;");
            c.row("told anew", x::told, 2, 0, 0, 0, 0, 11, 0, 0, 0, 0);
            c.row("stands anew", x::stands, -1, -1, -1, -1, -1, -1, -1, -1, -1, -1, -1, -1);
            c.row("wagon 0 anew", what -> x.wagon(0, what), 1, 1, 0, 0, -1, -1, 0);
            c.row("wagon 1 anew", what -> x.wagon(1, what), 1, 1, 0, 0, -1, -1, 0);
            c.due("not noted", x.stood(0, 3), -1);
        });
        c.test(3, "of no TRAIN ahead anything is told", () -> {
            TownTrain x = used();
            for (int i = 0; i < 3; i++) {
                Check.train(x, TWO);
                nothingOfUsed(x);
            }
            Check.train(x, "voter 2 1 0;speed 7;well 7;");
            c.due("another", x.way(14, 1), 2);
            Check.train(x, TWO);
            nothingOfUsed(x);
            Check.train(x, TWO);
            nothingOfUsed(x);
        });
        c.test(3, "what was found out for one TRAIN is not told of the next", () -> {
            TownTrain x = Check.told("wagon 2 1 0;wagon 3 9 0;gang 1;ground 0 5;tie 0 1 4;");
            c.due("best", x.best(3), 4);
            c.due("bestAt", x.bestAt(3, 0), 1);
            c.due("load", x.load(), 11);
            c.due("crew", x.crew(3), 5);
            Check.train(x, "wagon 4 9 0;wagon 4 1 0;gang 1;ground 1 5;tie 0 1 1;");
            c.due("best anew", x.best(3), 1);
            c.due("bestAt anew", x.bestAt(3, 0), 2);
            c.due("load anew", x.load(), 11);
            c.due("loaded anew", x.loaded(0), 0);
            c.due("crew anew", x.crew(3), 8);
            Check.train(x, "wagon 4 8 0;wagon 4 1 0;");
            c.due("load once more", x.load(), 10);
        });
    }

    /** What used() told is gone behind another train of two wagons. */
    private static void nothingOfUsed(TownTrain x) {
        c.due("needs", x.wagon(1, 6), 0);
        c.due("tie", x.tie(0, 1), 0);
        c.due("ground", x.ground(3), 0);
        c.due("voters", x.prefer(2, 0), 0);
        c.due("wells", x.way(14, 2), -1);
        c.due("speed", x.overtakes(9, 1, 0), 2);
        c.due("speed", x.overtakes(10, 1, 0), 1);
        c.due("frost", x.mild(1, 1), 1);
        c.due("gangs", x.crew(1), -1);
        c.due("hours", x.told(5), 8);
    }

    private static void whatAFaultKeeps() {
        String[] bad = {"x", "wagon 1 1 0", "hours 12;speed 3;gang 4;", "gang 1;".repeat(5)};
        c.test(3, "(all stays)", () -> {
            for (String text : bad) {
                TownTrain x = used();
                c.due("a fault", Check.train(x, text) < 0 ? 1 : 0, 1);
                c.row("told", x::told, 2, 1, 1, 1, 7, 5, 1, 1, 1, 2);
                c.row("wagon 0", what -> x.wagon(0, what), 2, 3, 4, 1, 3, -1, 0);
                c.row("wagon 1", what -> x.wagon(1, what), 1, 1, 1, 2, -1, 0, 1);
                c.due("law", x.would(6, 1, 0, 9, 0, 0), 2);
                c.due("tie", x.tie(0, 1), 5);
                c.due("ground", x.ground(3), 2);
                c.due("voter", x.prefer(2, 0), 1);
                c.due("well", x.way(16, 2), 3);
                c.due("frost", x.mild(1, 0), 3);
                c.due("gang", x.crew(3), 2);
                c.due("noted", x.fits(), 1);
                c.row("count", x::count, 2, 0, 2);
                c.due("undo", x.undo(), 1);
                c.due("restore", x.restore(), 1);
                c.due("as in the image", x.stands(3), 0);
            }
        });
        c.test(3, "all stays: a good train behind a bad one has nothing of it", () -> {
            TownTrain x = new TownTrain();
            Check.train(x, "wagon 6 6 5;tie 0 1 1;");
            Check.train(x, "wagon 6 6 5;wagon 6 6 5;tie 0 1 9;needs 1 0;ground 0 9;hours 9;frost 9;gang 3;well 5;"
                + "voter 0 1 2;speed 9;bad");
            c.due("good", Check.train(x, TWO), 2);
            c.row("told", x::told, 2, 0, 0, 0, 0, 8, 0, 0, 0, 0);
            c.due("tie", x.tie(0, 1), 0);
            c.due("needs", x.wagon(1, 6), 0);
            c.due("ground", x.ground(0), 0);
            c.due("frost", x.mild(1, 0), 1);
            c.due("well", x.way(10, 1), -1);
            c.due("voter", x.prefer(0, 1), 0);
            c.due("speed", x.overtakes(10, 1, 0), 1);
        });
    }

    private static void refusedLengths() {
        c.test(3, "IllegalArgumentException: n is not 0 to the TAPE's bytes", () -> {
            TownTrain x = new TownTrain();
            c.badArgument("1 of none", () -> x.train(1));
            Check.put(x, "  ");
            c.badArgument("-1", () -> x.train(-1));
            c.badArgument("21 of 20", () -> x.train(21));
            c.badArgument("600 of 20", () -> x.train(600));
            c.badArgument("the least number", () -> x.train(Integer.MIN_VALUE));
            c.badArgument("the largest number", () -> x.train(Integer.MAX_VALUE));
            for (int i = 0; i < 29; i++) {
                feedBlanks(x);
            }
            c.badArgument("601 of 600", () -> x.train(601));
        });
        c.test(3, "n is all of the TAPE's bytes", () -> {
            TownTrain x = new TownTrain();
            feedBlanks(x);
            c.due("20 of 20", x.train(20), 0);
            for (int i = 0; i < 30; i++) {
                feedBlanks(x);
            }
            c.due("600 of 600", x.train(600), 0);
        });
        c.test(3, "(it stays)", () -> {
            TownTrain x = Check.told("gang 1;");
            Check.put(x, "wagon 1 1 0;gang 2;");
            c.badArgument("too many", () -> x.train(21));
            c.badArgument("too few", () -> x.train(-1));
            c.due("bytes", x.count(1), 20);
            c.due("no fault", x.fault(), -1);
            c.due("the train stays, too", x.told(1), 1);
            c.due("they are still the same", x.train(19), 1);
        });
    }

    private static void lengthsAndNumbers() {
        c.test(3, "A TRAIN is a text of up to 600 bytes", () -> {
            TownTrain x = Check.told(" ".repeat(592) + "frost 4;");
            c.due("the last byte is read", x.mild(1, 0), 3);
            c.trainText(" ".repeat(592) + "frost 4x", -9, 599);
            c.trainText(" ".repeat(593) + "frost 4", -9, 600);
        });
        c.test(3, "{ CLAUSE \";\" }: none", () -> {
            c.trainText("", 0, -1);
            c.trainText(";", -9, 0);
            c.trainText("frost 1;;", -9, 8);
        });
        c.test(3, "at most 60", () -> {
            c.trainText("frost 1;".repeat(60), 0, -1);
            TownTrain x = Check.told("frost 1;".repeat(59) + "frost 4;");
            c.due("the 60th counts", x.mild(1, 0), 3);
            c.trainText("frost 1;".repeat(61), -7, 480);
            c.trainText("frost 1;".repeat(60) + "  frost 17", -7, 482);
            c.trainText("frost 1;".repeat(60) + "  ", 0, -1);
        });
        c.test(3, "Numbers: digits, as many as stand there", () -> {
            c.trainText("wagon 001 0009 00;", 1, -1);
            c.trainText("frost 0000000000000000000000000000016;", 0, -1);
            c.trainText("frost 0000000000000000000000000000017;", -8, 6);
            c.trainText("frost 160;", -8, 6);
            c.trainText("wagon 110;", -8, 6);
        });
        c.test(3, "a number beyond 32 or 64 bits is none such, it does not wrap", () -> {
            c.trainText("frost 4294967296;", -8, 6);
            c.trainText("frost 4294967297;", -8, 6);
            c.trainText("frost 18446744073709551617;", -8, 6);
            c.trainText("frost 340282366920938463463374607431768211457;", -8, 6);
            c.trainText("gang 1" + "0".repeat(590) + ";", -8, 5);
        });
        c.test(3, "WORDS: small letters, as many as stand there", () -> {
            c.trainText("frost1;", 0, -1);
            c.trainText("frosty 1;", -9, 0);
            c.trainText("frostz 1;", -9, 0);
            c.trainText("frosta 1;", -9, 0);
            c.trainText("afrost 1;", -9, 0);
            c.trainText("fros 1;", -9, 0);
            c.trainText("Frost 1;", -9, 0);
            c.trainText("frosT 1;", -9, 0);
            c.trainText("wagontie 1 1 1;", -9, 0);
            c.trainText("frost 1;x", -9, 8);
        });
        c.test(3, "blanks (32) may stand ahead of all these, and at the end", () -> {
            c.trainText("   wagon   1   1   0   ;   tie  0", -9, 33);
            c.trainText("   wagon   1   1   0   ;   gang  1  ;  ", 1, -1);
            c.trainText("frost 1 0;", -9, 8);
            c.trainText("fro st 1;", -9, 0);
            c.trainText("     ", 0, -1);
            for (char other : new char[] {0, 9, 10, 13, 31, 33, 160, 255}) {
                c.trainText("frost" + other + "1;", -9, 5);
            }
        });
    }

    /** A number of a clause: both ends of its range are taken, what is beyond them is a fault at its place. */
    private static void number(String ahead, int least, int most, String behind) {
        int place = ahead.length();
        int wagons = ahead.split("wagon", -1).length - 1;
        c.trainText(ahead + least + behind, wagons, -1);
        c.trainText(ahead + most + behind, wagons, -1);
        if (least > 0) {
            c.trainText(ahead + (least - 1) + behind, -8, place);
        }
        c.trainText(ahead + (most + 1) + behind, -8, place);
        c.trainText(ahead + "1" + most + "0" + behind, -8, place);
        c.trainText(ahead + "-1" + behind, -9, place);
        c.trainText(ahead + "x" + behind, -9, place);
        c.trainText(ahead, -9, place);
    }

    private static void wagons() {
        c.test(3, "HOURS H, 1 to 6", () -> number("wagon ", 1, 6, " 1 0;"));
        c.test(3, "WEIGHT W, 1 to 9", () -> number("wagon 1 ", 1, 9, " 0;"));
        c.test(3, "KIND K, 0 to 5", () -> number("wagon 1 1 ", 0, 5, ";"));
        c.test(3, "WAGONS, numbered from 0 on, 8 at most", () -> {
            StringBuilder text = new StringBuilder();
            for (int w = 0; w < 8; w++) {
                text.append("wagon ").append(w % 6 + 1).append(' ').append(w + 1).append(' ').append(w % 5).append(';');
            }
            TownTrain x = Check.told(text.toString());
            c.row("hours", w -> x.wagon(w, 0), 1, 2, 3, 4, 5, 6, 1, 2);
            c.row("weights", w -> x.wagon(w, 1), 1, 2, 3, 4, 5, 6, 7, 8);
            c.row("kinds", w -> x.wagon(w, 2), 0, 1, 2, 3, 4, 0, 1, 2);
            c.trainText(text + "wagon 1 1 0;", -7, 96);
            c.trainText(text + "  wagon", -7, 98);
            c.trainText(text + "tie 7 0 1;gang 1;", 8, -1);
            c.trainText(text + "wagons 1 1 0;", -9, 96);
        });
    }

    private static void ties() {
        c.test(3, "WAGONS A and B, not one, told ahead", () -> {
            c.trainText(TWO + "tie 0 1 1;", 2, -1);
            c.trainText(TWO + "tie 1 0 1;", 2, -1);
            c.trainText(TWO + "tie 2 0 1;", -8, 28);
            c.trainText(TWO + "tie 0 2 1;", -8, 30);
            c.trainText("tie 0 1 1;" + TWO, -8, 4);
            c.trainText("wagon 1 1 0;tie 0 1 1;wagon 1 1 0;", -8, 18);
            c.trainText("wagon 1 1 0;tie 1 0 1;wagon 1 1 0;", -8, 16);
        });
        c.test(3, "the second of two that are not to be one", () -> {
            c.trainText(TWO + "tie 0 0 1;", -8, 30);
            c.trainText(TWO + "tie 1 1 1;", -8, 30);
            c.trainText(TWO + "tie 1 01 1;", -8, 30);
        });
        c.test(3, "want to be near: N, 1 to 9", () -> number(TWO + "tie 0 1 ", 1, 9, ";"));
        c.test(3, "more of the two add up", () -> {
            TownTrain x = Check.told(TWO + "tie 0 1 9;tie 1 0 9;tie 0 1 1;");
            c.due("either way round", x.tie(0, 1), 19);
            c.due("and back", x.tie(1, 0), 19);
            // 2 wagons and 57 ties of 10 bytes are 594
            TownTrain most = Check.told(TWO + "tie 0 1 9;".repeat(57));
            c.due("as many as there is room for", most.tie(0, 1), 513);
        });
    }

    private static void needs() {
        c.test(3, "A needs B, both told ahead", () -> {
            c.trainText("needs 0 0;wagon 1 1 0;", -8, 6);
            c.trainText("wagon 1 1 0;needs 1 0;wagon 1 1 0;", -8, 18);
            c.trainText(TWO + "needs 2 0;", -8, 30);
            c.trainText(TWO + "needs 1 0;", 2, -1);
            c.trainText("wagon 1 1 0;".repeat(8) + "needs 7 6;needs 7 0;", 8, -1);
            c.trainText("wagon 1 1 0;".repeat(8) + "needs 8 6;", -8, 102);
        });
        c.test(3, "B less than A", () -> {
            c.trainText(TWO + "needs 0 0;", -8, 32);
            c.trainText(TWO + "needs 1 1;", -8, 32);
            c.trainText(TWO + "needs 0 1;", -8, 32);
            c.trainText(TWO + "needs 1 2;", -8, 32);
        });
        c.test(3, "the same twice is once", () -> {
            TownTrain x = Check.told("wagon 1 1 0;".repeat(3) + "needs 2 1;needs 2 1;needs 2 1;");
            c.due("one", x.wagon(2, 6), 2);
            TownTrain y = Check.told("wagon 1 1 0;".repeat(8) + "needs 7 0;needs 7 6;needs 7 0;");
            c.due("two", y.wagon(7, 6), 65);
        });
    }

    private static void ground() {
        c.test(3, "CELL X, 0 to 11", () -> number("ground ", 0, 11, " 1;"));
        c.test(3, "is G hard, 0 to 9", () -> number("ground 0 ", 0, 9, ";"));
        c.test(3, "0 without; the last counts: ground", () -> {
            TownTrain x = Check.told("ground 0 9;ground 11 4;ground 0 3;ground 11 0;ground 5 9;");
            c.row("ground", x::ground, 3, 0, 0, 0, 0, 9, 0, 0, 0, 0, 0, 0);
        });
    }

    private static void hoursAndSpeed() {
        c.test(3, "a DAY has N, 1 to 24", () -> number("hours ", 1, 24, ";"));
        c.test(3, "8 without; the last counts", () -> {
            c.due("without", Check.told("").told(5), 8);
            c.due("the least", Check.told("hours 24;hours 1;").told(5), 1);
            c.due("the most", Check.told("hours 1;hours 24;").told(5), 24);
        });
        c.test(3, "the train goes V MILES a DAY, 1 to 20", () -> number("speed ", 1, 20, ";"));
        c.test(3, "5 without; the last counts", () -> {
            int[] want = {5, 1, 20};
            String[] texts = {"", "speed 20;speed 1;", "speed 1;speed 20;"};
            for (int i = 0; i < 3; i++) {
                TownTrain x = Check.told(texts[i]);
                Check.work(x, "day;");
                c.due("a mile by '" + texts[i] + "'", x.told(4), want[i]);
            }
        });
    }

    private static void gangsAndVoters() {
        c.test(3, "S, 1 to 3, as quick", () -> number("gang ", 1, 3, ";"));
        c.test(3, "GANGS likewise, 4 at most", () -> {
            TownTrain x = Check.told("gang 1;".repeat(4));
            c.due("gangs", x.told(1), 4);
            c.trainText("gang 1;".repeat(4) + "gang 1;", -7, 28);
            c.trainText("gang 1;".repeat(4) + "gang 9;", -7, 28);
        });
        c.test(3, "PLANS 0 to 2 in the order he likes them, the first most", () -> {
            c.trainText("voter 0 1 2;", 0, -1);
            c.trainText("voter 2 1 0;", 0, -1);
            c.trainText("voter 3 1 0;", -8, 6);
            c.trainText("voter 0 3 1;", -8, 8);
            c.trainText("voter 0 1 3;", -8, 10);
            c.trainText("voter 0 1;", -9, 9);
            TownTrain x = Check.told("voter 2 0 1;");
            c.due("2 more than 0", x.prefer(2, 0), 1);
            c.due("0 more than 1", x.prefer(0, 1), 1);
            c.due("1 less than 2", x.prefer(1, 2), 0);
        });
        c.test(3, "none twice", () -> {
            c.trainText("voter 0 0 1;", -8, 8);
            c.trainText("voter 0 1 0;", -8, 10);
            c.trainText("voter 0 1 1;", -8, 10);
            c.trainText("voter 2 2 2;", -8, 8);
        });
        c.test(3, "VOTERS likewise, 9 at most", () -> {
            TownTrain x = Check.told("voter 0 1 2;".repeat(9));
            c.due("voters", x.told(2), 9);
            c.due("all count", x.prefer(0, 2), 9);
            c.trainText("voter 0 1 2;".repeat(9) + "voter 0 1 2;", -7, 108);
            c.trainText("voter 0 1 2;".repeat(9) + "voter 0 0", -7, 108);
        });
    }

    private static void wells() {
        c.test(3, "there is a WELL at MILE M, 1 to 200", () -> number("well ", 1, 200, ";"));
        c.test(3, "8 at most; the same twice is once, but counts", () -> {
            c.trainText("well 5;".repeat(8), 0, -1);
            c.trainText("well 5;".repeat(9), -7, 56);
            c.trainText("well 1;well 2;well 3;well 4;well 5;well 6;well 7;well 8;", 0, -1);
            c.trainText("well 1;well 2;well 3;well 4;well 5;well 6;well 7;well 8;well 9;", -7, 56);
            TownTrain x = Check.told("well 5;well 5;");
            c.due("one well", x.way(10, 1), 2);
            c.due("one well alone", x.way(11, 1), -1);
        });
    }

    private static void frost() {
        c.test(3, "\"frost\" Q (0 to 16", () -> number("frost ", 0, 16, ";"));
        c.test(3, "0 without; the last counts)", () -> {
            c.due("without", Check.told("").mild(1, 1), 1);
            TownTrain x = Check.told("frost 16;frost 1;");
            c.due("above", x.mild(1, 0), 15);
            c.due("below", x.mild(1, 1), 16);
            c.due("back to none", Check.told("frost 16;frost 0;").mild(1, 0), 1);
            c.due("always", Check.told("frost 0;frost 16;").mild(1, 0), 0);
        });
    }
}
