/** Promises 4 to 7 at their edges, as texts: a test for each piece of the document that names one. */
public final class EdgesOfTextsTest {
    private static final Check c = new Check();
    private static final String TWO = "wagon 1 1 0;wagon 1 1 0;";
    private static final String EIGHT = "0 0;1 0;2 0;3 0;4 0;5 0;6 0;7 0;";

    public static void main(String[] args) {
        lawLengths();
        lawTexts();
        lawValues();
        lawNumbers();
        lawNear();
        workLengths();
        workTexts();
        workLoops();
        tooManyWorks();
        bookLengths();
        bookLines();
        faultPlaces();
        faultKinds();
        latestFault();
        c.end("EdgesOfTextsTest", 4, 5, 6, 7);
    }

    private static TownTrain fed(int bytes) {
        TownTrain x = new TownTrain();
        Check.put(x, " ".repeat(bytes));
        return x;
    }

    private static void lawLengths() {
        c.test(4, "A LAW is a text of up to 150 bytes", () -> {
            TownTrain x = new TownTrain();
            c.due("150", Check.law(x, " ".repeat(149) + "7"), 1);
            c.due("its last byte is read", x.would(1, 1, 0, 0, 0, 0), 7);
            c.lawText(" ".repeat(148) + "7x", -9, 149);
            c.lawText(" ".repeat(148) + "7+", -9, 150);
            c.lawText("1" + "+1".repeat(74) + " ", 1, -1);
        });
        c.test(4, "(n to 150)", () -> {
            TownTrain x = fed(600);
            c.badArgument("151 of 600", () -> x.law(151));
            c.badArgument("600 of 600", () -> x.law(600));
            c.badArgument("-1", () -> x.law(-1));
            c.badArgument("the largest number", () -> x.law(Integer.MAX_VALUE));
            c.badArgument("the least number", () -> x.law(Integer.MIN_VALUE));
            c.due("the tape stays", x.count(1), 600);
            c.due("150 of 600", x.law(150), -9);
            c.due("the tape is empty", x.count(1), 0);
        });
        c.test(4, "Likewise: n is not 0 to the TAPE's bytes", () -> {
            TownTrain x = fed(140);
            c.badArgument("141 of 140", () -> x.law(141));
            c.badArgument("150 of 140", () -> x.law(150));
            c.due("the tape stays", x.count(1), 140);
            c.badArgument("1 of none", () -> new TownTrain().law(1));
            c.due("0 of none is a text that ends too early", new TownTrain().law(0), -9);
        });
        c.test(4, "Likewise: the FAULT less 10 (all stays)", () -> {
            TownTrain x = new TownTrain();
            Check.law(x, "5");
            for (String bad : new String[] {"", "7+", "7 7", "1000", "(((((((1"}) {
                c.due("a fault in '" + bad + "'", Check.law(x, bad) < 0 ? 1 : 0, 1);
                c.due("the law stays", x.would(1, 1, 0, 0, 0, 0), 5);
            }
        });
        c.test(4, "a LAW that is told takes nothing else away", () -> {
            TownTrain x = Check.told(TWO);
            Check.work(x, "lay 0 3;lay 0 3;");
            Check.book(x, "1 1;");
            x.image();
            c.due("law", Check.law(x, "3"), 1);
            c.row("told", x::told, 2, 0, 0, 0, 0, 7, 1, 0, 1, 1);
            c.row("count", x::count, 1, 0, 1);
            c.due("it counts at once", x.lasts(1, 0), 3);
            c.due("undo", x.undo(), 0);
            c.due("it is not undone", x.lasts(1, 0), 3);
            c.due("restore", x.restore(), 0);
            c.due("nor restored", x.lasts(1, 0), 3);
        });
    }

    private static void lawTexts() {
        c.test(4, "E, at the end nothing more", () -> {
            for (String more : new String[] {"1", "hours", ")", "]", ",", ";", "(", "[", "+"}) {
                c.lawText("kind " + more, -9, more.equals("+") ? 6 : 5);
            }
            c.lawText("kind  ", 1, -1);
        });
        c.test(4, "E: T { + or - T }. T: U { * or / U }", () -> {
            c.lawText("1+2-3*4/5", 1, -1);
            for (String sign : new String[] {"+", "-", "*", "/"}) {
                c.lawText(sign + "1", -9, 0);
                c.lawText("1" + sign, -9, 2);
                c.lawText("1" + sign + sign + "1", -9, 2);
            }
            c.lawText("1%2", -9, 1);
        });
        c.test(4, "N (0 to 999)", () -> {
            c.lawText("0", 1, -1);
            c.lawText("999", 1, -1);
            c.lawText("00999", 1, -1);
            c.lawText("1000", -8, 0);
            c.lawText("4294967297", -8, 0);
            c.lawText("hours+1000", -8, 6);
        });
        c.test(4, "\"least\" \"[\" E \",\" E \"]\", \"most\" \"[\" E \",\" E \"]\", or \"(\" E \")\"", () -> {
            for (String word : new String[] {"least", "most"}) {
                int n = word.length();
                c.lawText(word + "[1,2]", 1, -1);
                c.lawText(word, -9, n);
                c.lawText(word + "(1,2)", -9, n);
                c.lawText(word + "[]", -9, n + 1);
                c.lawText(word + "[,2]", -9, n + 1);
                c.lawText(word + "[1]", -9, n + 2);
                c.lawText(word + "[1,]", -9, n + 3);
                c.lawText(word + "[1,2", -9, n + 4);
                c.lawText(word + "[1,2)", -9, n + 4);
                c.lawText(word + "[1,2,3]", -9, n + 4);
            }
            c.lawText("()", -9, 1);
            c.lawText("(1", -9, 2);
            c.lawText("(1]", -9, 2);
            c.lawText("(1,2)", -9, 2);
            c.lawText("[1]", -9, 0);
        });
        c.test(4, "words that are none of a LAW's", () -> {
            for (String word : new String[] {"hour", "hourss", "speed", "wagon", "lay", "a", "Hours", "leastmost"}) {
                c.lawText(word, -9, 0);
            }
            for (String word : new String[] {"hours", "weight", "kind", "cell", "ground", "day", "near", "frost"}) {
                c.lawText(word, 1, -1);
            }
        });
        c.test(4, "a 7th of ( least most again that is open at one time", () -> {
            c.lawText("((((((1))))))", 1, -1);
            c.lawText("(((((((1)))))))", -7, 6);
            c.lawText("((((((1)))))) + ((((((1))))))", 1, -1);
            c.lawText("(((((( (1", -7, 7);
            c.lawText("((((((least", -7, 6);
            c.lawText("((((((1+most[1,2]))))))", -7, 8);
            c.lawText("least[least[least[most[most[most[1,2],3],4],5],6],7]", 1, -1);
            c.lawText("least[0,least[0,least[0,most[0,most[0,most[(1),2]]]]]]", -7, 43);
            c.lawText("least[1,(least[1,(least[1,(2)])])]", 1, -1);
            c.lawText("least[1,(least[1,(least[1,((2))])])]", -7, 27);
            c.lawText("((((((1)+(1))*(1))))+(1))", 1, -1);
        });
    }

    private static void value(String text, int want) {
        TownTrain x = new TownTrain();
        c.due("law '" + text + "'", Check.law(x, text), 1);
        c.due("by '" + text + "'", x.would(6, 9, 5, 8, 2, 1), want);
    }

    private static void lawValues() {
        c.test(4, "LASTS: HOURS it takes to lay a WAGON: what comes out, 1 at least, 24 at most", () -> {
            value("0-999", 1);
            value("0-1", 1);
            value("0", 1);
            value("1", 1);
            value("2", 2);
            value("23", 23);
            value("24", 24);
            value("25", 24);
            value("999*999", 24);
        });
        c.test(4, "\"hours\" (H), \"weight\" (W), \"kind\" (K)", () -> {
            value("hours", 6);
            value("weight", 9);
            value("kind", 5);
        });
        c.test(4, "\"cell\", \"ground\" (of it), \"day\"", () -> {
            TownTrain x = Check.told("wagon 1 1 0;ground 0 9;ground 11 2;hours 24;");
            Check.law(x, "cell+5");
            c.due("the first cell", x.lasts(0, 0), 5);
            c.due("the last cell", x.lasts(0, 11), 16);
            Check.law(x, "ground+1");
            c.due("ground of the first", x.lasts(0, 0), 10);
            c.due("ground of the last", x.lasts(0, 11), 3);
            c.due("ground of another", x.lasts(0, 1), 1);
            Check.law(x, "day/10+1");
            c.due("day 0", x.lasts(0, 0), 1);
            Check.work(x, "again 19[day;day;day;day;day;day;day;day;day;day;];");
            c.due("day 190", x.lasts(0, 0), 20);
            Check.work(x, "again 20[day;];");
            c.due("day 200", x.lasts(0, 0), 21);
        });
        c.test(4, "\"day\" alone, DAY by DAY", () -> {
            TownTrain x = Check.told("wagon 1 1 0;");
            Check.law(x, "day");
            int[] want = {1, 1, 2, 3, 4};
            for (int day = 0; day < 5; day++) {
                c.due("day " + day, x.lasts(0, 0), want[day]);
                Check.work(x, "day;");
            }
            x.undo();
            x.undo();
            c.due("back on day 3", x.lasts(0, 0), 3);
        });
        c.test(4, "a new LAW on an earlier DAY", () -> {
            TownTrain x = Check.told("wagon 1 1 0;");
            for (int days : new int[] {64, 128}) {
                Check.work(x, "again 16[" + "day;".repeat(days / 16) + "];");
                for (int law = 2; law < 6; law++) {
                    Check.law(x, law + "+day*0");
                    c.due("now", x.lasts(0, 0), law);
                }
                x.undo();
                for (int law = 7; law < 12; law++) {
                    Check.law(x, law + "+day*0");
                    c.due("back, by a new one", x.lasts(0, 0), law);
                }
            }
        });
        c.test(4, "all HOURS of the DAY are there, no frost", () -> {
            TownTrain x = Check.told("wagon 1 1 0;frost 16;");
            Check.law(x, "1+frost*9");
            c.due("at first", x.lasts(0, 0), 1);
            Check.work(x, "day;");
            c.due("nor by work", x.lasts(0, 0), 1);
            c.due("laid as without", Check.work(x, "lay 0 0;"), 1);
            c.due("hours", x.told(5), 7);
        });
        c.test(4, "An object is used for at most 512 calls", () -> {
            TownTrain x = Check.told("wagon 1 1 0;");
            for (int i = 0; i < 170; i++) {
                Check.law(x, Integer.toString(i % 24 + 1));
                c.due("law " + i, x.lasts(0, 0), i % 24 + 1);
            }
        });
        c.test(4, "\"frost\" (1 in a DAY with frost, else 0)", () -> {
            TownTrain x = Check.told("wagon 1 1 0;frost 16;hours 5;");
            Check.law(x, "1+frost*9");
            c.due("no frost now", x.lasts(0, 0), 1);
            c.due("nor can it hinder", x.can(0, 0) ? 1 : 0, 1);
            c.due("such frost", x.would(1, 1, 0, 0, 0, 1), 10);
            c.due("none such", x.would(1, 1, 0, 0, 0, 0), 1);
            c.due("laid in a season of frost", x.season(1, 1, 1), 0);
            c.due("no frost behind it", x.lasts(0, 0), 1);
        });
        c.test(4, "\"least\" and \"most\" of two", () -> {
            value("least[3,4]", 3);
            value("least[4,3]", 3);
            value("least[4,4]", 4);
            value("most[3,4]", 4);
            value("most[4,3]", 4);
            value("most[4,4]", 4);
            value("5+least[0-3,2]", 2);
            value("5+most[0-3,0-2]", 3);
        });
    }

    private static void lawNumbers() {
        c.test(4, "Values are whole numbers of 32 bits that wrap", () -> {
            // 512 * 512 * 512 * 16 is 2^31
            value("512*512*512*16", 1);
            value("512*512*512*16-1", 24);
            value("512*512*512*16-1+1", 1);
            value("0-512*512*512*16", 1);
            value("0-512*512*512*16-1", 24);
            value("512*512*512*32+7", 7);
            value("512*512*512*16+512*512*512*16+7", 7);
            // 999^4 is 996,005,996,001, by 32 bits -426,416,671
            value("999*999*999*999", 1);
            value("0-999*999*999*999/999/999/20", 21);
        });
        c.test(4, "/ cuts", () -> {
            value("7/2", 3);
            value("9+(0-7)/2", 6);
            value("9+7/(0-2)", 6);
            value("9+(0-7)/(0-2)", 12);
            value("9+(0-1)/2", 9);
            value("1/2+5", 5);
        });
        c.test(4, "by 0 it is 0", () -> {
            value("5+7/0", 5);
            value("5+0/0", 5);
            value("5+(0-7)/0", 5);
            value("5+7/(3-3)*9", 5);
            value("5+512*512*512*16/0", 5);
            value("5+7/(1/2)", 5);
        });
        c.test(4, "the least number by -1 wraps to itself", () -> {
            value("512*512*512*16/(0-1)", 1);
            value("512*512*512*16/(0-1)-1", 24);
        });
        c.test(4, "from the left, * and / ahead of + and -", () -> {
            value("20-5-3", 12);
            value("20-(5-3)", 18);
            value("100/5/4", 5);
            value("100/5*4/10", 8);
            value("2+3*4", 14);
            value("3*4+2", 14);
            value("20-6/3", 18);
            value("(2+3)*4", 20);
        });
    }

    private static void lawNear() {
        c.test(4, "\"near\" (how many of the two CELLS beside it have a WAGON laid)", () -> {
            TownTrain x = Check.told("wagon 1 1 0;".repeat(4) + "hours 24;");
            Check.law(x, "near+1");
            c.due("none", x.lasts(3, 4), 1);
            Check.work(x, "lay 0 3;");
            c.due("one to the left", x.lasts(3, 4), 2);
            c.due("one to the right", x.lasts(3, 2), 2);
            c.due("two cells off", x.lasts(3, 5), 1);
            c.due("its own cell is not beside it", x.lasts(3, 3), 1);
            Check.work(x, "lay 1 5;");
            c.due("two", x.lasts(3, 4), 3);
            Check.work(x, "take 0;");
            c.due("taken up", x.lasts(3, 4), 2);
            Check.work(x, "day;");
            c.due("left ones are laid no more", x.lasts(3, 4), 1);
        });
        c.test(4, "near at the first and the last CELL", () -> {
            TownTrain x = Check.told("wagon 1 1 0;".repeat(4) + "hours 24;");
            Check.law(x, "near+1");
            Check.work(x, "lay 0 11;");
            c.due("the last is not beside the first", x.lasts(3, 0), 1);
            c.due("beside the last", x.lasts(3, 10), 2);
            Check.work(x, "take 0;lay 0 0;");
            c.due("the first is not beside the last", x.lasts(3, 11), 1);
            c.due("beside the first", x.lasts(3, 1), 2);
            Check.work(x, "lay 1 1;lay 2 10;");
            c.due("one beside the first", x.lasts(3, 0), 2);
            c.due("one beside the last", x.lasts(3, 11), 2);
        });
    }

    private static void workLengths() {
        c.test(5, "WORK is a text of up to 150 bytes", () -> {
            c.workText("", " ".repeat(146) + "day;", 1, -1);
            c.workText("", " ".repeat(146) + "day:", -9, 149);
            c.workText("", " ".repeat(147) + "day", -9, 150);
            c.workText("", "day;".repeat(37) + "  ", 37, -1);
        });
        c.test(5, "(n to 150)", () -> {
            TownTrain x = fed(160);
            c.badArgument("151 of 160", () -> x.work(151));
            c.badArgument("-1", () -> x.work(-1));
            c.badArgument("the largest number", () -> x.work(Integer.MAX_VALUE));
            c.badArgument("the least number", () -> x.work(Integer.MIN_VALUE));
            c.due("the tape stays", x.count(1), 160);
            c.due("no work", x.count(2), 0);
            c.due("150 of 160", x.work(150), 0);
            c.due("the tape is empty", x.count(1), 0);
            c.due("a work", x.count(2), 1);
        });
        c.test(5, "Likewise: n is not 0 to the TAPE's bytes", () -> {
            TownTrain x = fed(20);
            c.badArgument("21 of 20", () -> x.work(21));
            c.due("the tape stays", x.count(1), 20);
            c.badArgument("1 of none", () -> new TownTrain().work(1));
        });
        c.test(5, "{ STEP \";\" }: none is a WORK, too", () -> {
            TownTrain x = new TownTrain();
            c.due("empty", x.work(0), 0);
            c.due("it can be undone", x.count(2), 1);
            c.due("blanks", Check.work(x, "   "), 0);
            c.due("and this", x.count(2), 2);
        });
    }

    private static void workTexts() {
        c.test(5, "\"lay\" A X", () -> {
            c.workText(TWO, "lay 1 11;", 1, -1);
            c.workText(TWO, "lay 0 0;", 1, -1);
            c.workText(TWO, "lay 2 0;", -8, 4);
            c.workText(TWO, "lay 0 12;", -8, 6);
            c.workText(TWO, "lay 0;", -9, 5);
            c.workText(TWO, "lay ;", -9, 4);
            c.workText(TWO, "lay 0 0 0;", -9, 8);
            c.workText("", "lay 0 0;", -8, 4);
        });
        c.test(5, "\"take\" A, \"fetch\" A", () -> {
            for (String word : new String[] {"take ", "fetch "}) {
                c.workText(TWO, word + "1;", 0, -1);
                c.workText(TWO, word + "2;", -8, word.length());
                c.workText(TWO, word + ";", -9, word.length());
                c.workText(TWO, word + "0 0;", -9, word.length() + 2);
                c.workText("", word + "0;", -8, word.length());
            }
        });
        c.test(5, "\"day\"", () -> {
            c.workText("", "day;", 1, -1);
            c.workText("", "day", -9, 3);
            c.workText("", "day 0;", -9, 4);
            c.workText("", "days;", -9, 0);
            c.workText("", ";", -9, 0);
        });
        c.test(5, "or the FAULT less 10 (none is)", () -> {
            TownTrain x = Check.told(TWO);
            c.due("steps ahead of a fault are not done", Check.work(x, "lay 0 0;day;day;lay 9 0;"), -8);
            c.due("not laid", x.told(6), 0);
            c.due("no day", x.told(3), 0);
            c.due("no work", x.count(2), 0);
            c.due("the tape is empty", x.count(1), 0);
        });
    }

    private static void workLoops() {
        c.test(5, "\"again\" N \"[\" { STEP \";\" } \"]\" (N 0 to 20)", () -> {
            c.workText("", "again 0[day;];", 0, -1);
            c.workText("", "again 20[day;];", 20, -1);
            c.workText("", "again 21[day;];", -8, 6);
            c.workText("", "again 5[];", 0, -1);
            c.workText("", "again [day;];", -9, 6);
            c.workText("", "again 5 day;", -9, 8);
            c.workText("", "again 5(day;);", -9, 7);
            c.workText("", "again 5[day];", -9, 11);
            c.workText("", "again 5[day;]", -9, 13);
            c.workText("", "again 5[day;", -9, 12);
            c.workText("", "again 5[", -9, 8);
            c.workText("", "again", -9, 5);
            c.workText("", "];", -9, 0);
            c.workText("", "again 1[day;];];", -9, 14);
        });
        c.test(5, "a 7th of ( least most again that is open at one time", () -> {
            c.workText("", "again 1[".repeat(6) + "day;" + "];".repeat(6), 1, -1);
            c.workText("", "again 1[".repeat(6) + "again 1[];", -7, 48);
            c.workText("", "again 1[".repeat(6) + "  again", -7, 50);
            c.workText("", "again 1[".repeat(6) + "];again 1[];" + "];".repeat(5), 0, -1);
            c.workText("", "again 1[".repeat(6) + "];again 1[again", -7, 58);
            c.workText("", ("again 1[".repeat(6) + "];".repeat(6)).repeat(2), 0, -1);
        });
    }

    private static void tooManyWorks() {
        c.test(5, "-20 ahead of that: 16 WORKS are there that were not undone", () -> {
            TownTrain x = Check.told(TWO);
            for (int i = 1; i <= 16; i++) {
                c.due("work " + i, Check.work(x, "day;"), 1);
            }
            c.due("a 17th", Check.work(x, "day;"), -20);
            c.due("it is not done", x.told(3), 16);
            c.due("works", x.count(2), 16);
            c.due("a 17th with a fault", Check.work(x, "bad"), -20);
            c.due("an empty 17th", x.work(0), -20);
        });
        c.test(5, "(nothing is read, there is no FAULT, the TAPE is empty then)", () -> {
            TownTrain x = Check.told(TWO);
            for (int i = 1; i <= 16; i++) {
                x.work(0);
            }
            Check.law(x, "bad");
            c.due("a fault ahead", x.fault(), 0);
            c.due("a 17th with a fault", Check.work(x, "  bad"), -20);
            c.due("no fault", x.fault(), -1);
            c.due("tape", x.count(1), 0);
        });
        c.test(5, "that were not undone", () -> {
            TownTrain x = Check.told(TWO);
            for (int i = 1; i <= 16; i++) {
                x.work(0);
            }
            c.due("undo", x.undo(), 15);
            c.due("one more", Check.work(x, "day;"), 1);
            c.due("full again", Check.work(x, "day;"), -20);
            c.due("works with faults don't count", x.undo(), 15);
            c.due("a fault", Check.work(x, "bad"), -9);
            c.due("still one more", Check.work(x, "day;"), 1);
        });
        c.test(5, "n is looked at ahead of -20", () -> {
            TownTrain x = new TownTrain();
            for (int i = 1; i <= 16; i++) {
                x.work(0);
            }
            Check.put(x, "day;");
            c.badArgument("21 of 20", () -> x.work(21));
            c.badArgument("-1", () -> x.work(-1));
            c.due("the tape stays", x.count(1), 20);
        });
    }

    private static void bookLengths() {
        c.test(6, "A BOOK is one of up to 60 bytes", () -> {
            c.bookText(" ".repeat(56) + "3 4;", 1, -1);
            c.bookText(" ".repeat(56) + "3 4:", -9, 59);
            c.bookText(" ".repeat(57) + "3 4", -9, 60);
        });
        c.test(6, "(n to 60)", () -> {
            TownTrain x = fed(80);
            c.badArgument("61 of 80", () -> x.book(61));
            c.badArgument("-1", () -> x.book(-1));
            c.badArgument("the largest number", () -> x.book(Integer.MAX_VALUE));
            c.badArgument("the least number", () -> x.book(Integer.MIN_VALUE));
            c.due("the tape stays", x.count(1), 80);
            c.due("60 of 80", x.book(60), 0);
            c.due("the tape is empty", x.count(1), 0);
        });
        c.test(6, "Likewise: n is not 0 to the TAPE's bytes", () -> {
            TownTrain x = fed(20);
            c.badArgument("21 of 20", () -> x.book(21));
            c.due("the tape stays", x.count(1), 20);
            c.badArgument("1 of none", () -> new TownTrain().book(1));
        });
        c.test(6, "how many lines", () -> {
            c.bookText("", 0, -1);
            c.bookText("  ", 0, -1);
            c.bookText("5 5;", 1, -1);
            c.bookText(EIGHT, 8, -1);
        });
        c.test(6, "Likewise: a new BOOK stands for the one ahead; with a FAULT all stays", () -> {
            TownTrain x = new TownTrain();
            Check.work(x, "day;");
            Check.book(x, "1 1;2 2;");
            c.due("lines", x.told(8), 2);
            c.due("none fits", x.fits(), 0);
            c.due("a fault", Check.book(x, "3 3;3"), -8);
            c.due("lines stay", x.told(8), 2);
            c.due("their cells, too", x.look(0), 0);
            Check.book(x, "0 6;");
            c.due("one line", x.told(8), 1);
            c.due("the day fits", x.fits(), 1);
            c.due("the first in no line", x.look(0), 1);
            Check.book(x, "");
            c.due("no line", x.told(8), 0);
            c.due("the first", x.look(0), 0);
        });
    }

    private static void bookLines() {
        c.test(6, "{ X K \";\" }", () -> {
            c.bookText("0 0;11 6;", 2, -1);
            c.bookText("12 0;", -8, 0);
            c.bookText("11 7;", -8, 3);
            c.bookText("0;", -9, 1);
            c.bookText("0 0 0;", -9, 4);
            c.bookText("0 0", -9, 3);
            c.bookText("x 0;", -9, 0);
            c.bookText("0 x;", -9, 2);
            c.bookText(";", -9, 0);
            c.bookText("00011 0006 ; ", 1, -1);
        });
        c.test(6, "8 lines at most", () -> {
            c.bookText(EIGHT, 8, -1);
            c.bookText(EIGHT + "    ", 8, -1);
            c.bookText(EIGHT + "8 0;", -7, 32);
            c.bookText(EIGHT + "  8 9", -7, 34);
        });
        c.test(6, "no X twice", () -> {
            c.bookText("3 1;3 1;", -8, 4);
            c.bookText("3 1;4 1;03 2;", -8, 8);
            c.bookText("0 0;0 0;", -8, 4);
            c.bookText("11 0;11 0;", -8, 5);
        });
        c.test(6, "(K 6: nothing)", () -> {
            TownTrain x = Check.told("wagon 1 1 5;");
            Check.work(x, "lay 0 0;day;");
            Check.book(x, "0 6;");
            c.due("something stood there", x.fits(), 0);
            Check.book(x, "1 6;");
            c.due("nothing stood there", x.fits(), 1);
            Check.book(x, "0 5;");
            c.due("one of the kind", x.fits(), 1);
            Check.book(x, "1 5;");
            c.due("none of the kind", x.fits(), 0);
        });
    }

    private static void faultPlaces() {
        c.test(7, "FAULTS, the first from the left, at its first byte", () -> {
            c.trainText("frost 99;bad", -8, 6);
            c.trainText("bad;frost 99;", -9, 0);
            c.trainText("gang 1;".repeat(4) + "gang 9;bad", -7, 28);
            c.trainText("frost 9999 bad", -8, 6);
            c.lawText("1000+bad", -8, 0);
            c.lawText("bad+1000", -9, 0);
            c.workText(TWO, "lay 7 77;bad", -8, 4);
            c.workText(TWO, "lay bad 77;", -9, 4);
            c.bookText("12 7;bad", -8, 0);
            c.bookText("1 7;bad", -8, 2);
        });
        c.test(7, "(at the length, if the text ends too early)", () -> {
            c.trainText("wagon", -9, 5);
            c.trainText("wagon 1 1 0", -9, 11);
            c.trainText("wagon 1 1 0    ", -9, 15);
            c.lawText("", -9, 0);
            c.lawText("    ", -9, 4);
            c.lawText("(1  ", -9, 4);
            c.workText("", "again 2[day;   ", -9, 15);
            c.workText("", "day ", -9, 4);
            c.bookText("5 ", -9, 2);
            TownTrain x = new TownTrain();
            Check.put(x, "frost 1;");
            c.due("the length is n, whatever is behind", x.train(6), -9);
            c.due("place", x.fault(), 6);
        });
        c.test(7, "at its first byte: behind blanks", () -> {
            c.trainText("frost   17;", -8, 8);
            c.trainText("   bad", -9, 3);
            c.lawText("1  1", -9, 3);
            c.workText("", "day  5;", -9, 5);
            c.bookText("0 0;  0 0;", -8, 6);
        });
    }

    private static void faultKinds() {
        c.test(7, "1 what can't stand there", () -> {
            c.trainText("frost 1,", -9, 7);
            c.trainText("5;", -9, 0);
            c.lawText("1;", -9, 1);
            c.workText("", "5;", -9, 0);
            c.bookText("0 0,", -9, 3);
        });
        c.test(7, "2 a number that is none such (the second of two that are not to be one, a PLAN twice, an X twice)", () -> {
            c.trainText(TWO + "tie 1 1 1;", -8, 30);
            c.trainText("voter 1 2 1;", -8, 10);
            c.bookText("7 1;7 1;", -8, 4);
            c.lawText("1000", -8, 0);
            c.workText("", "again 21[];", -8, 6);
        });
        c.test(7, "3 a CLAUSE, WAGON, GANG, VOTER or WELL too many (at its word)", () -> {
            c.trainText("hours 1;".repeat(60) + " hours 1;", -7, 481);
            c.trainText("wagon 1 1 0;".repeat(8) + " wagon 1 1 0;", -7, 97);
            c.trainText("gang 1;".repeat(4) + " gang 1;", -7, 29);
            c.trainText("voter 0 1 2;".repeat(9) + " voter 0 1 2;", -7, 109);
            c.trainText("well 1;".repeat(8) + " well 1;", -7, 57);
        });
        c.test(7, "a line too many (at its X)", () -> c.bookText(EIGHT + " 11 6;", -7, 33));
        c.test(7, "of one the least", () -> {
            c.trainText("hours 1;".repeat(60) + "hour 1;", -9, 480);
            c.trainText("hours 1;".repeat(60) + "7", -9, 480);
            c.trainText("hours 1;".repeat(60) + ";", -9, 480);
            c.bookText(EIGHT + "12 0;", -8, 32);
            c.bookText(EIGHT + "3 0;", -8, 32);
            c.bookText(EIGHT + "x", -9, 32);
            c.bookText(EIGHT + ";", -9, 32);
            c.lawText("((((((bad", -9, 6);
            c.lawText("((((((1000", -8, 6);
            c.workText("", "again 1[".repeat(6) + "bad", -9, 48);
        });
    }

    private static void latestFault() {
        c.test(7, "The place of the FAULT of the latest text", () -> {
            TownTrain x = new TownTrain();
            Check.train(x, "frost 99;");
            c.due("of a train", x.fault(), 6);
            Check.law(x, "1+1+x");
            c.due("of a law", x.fault(), 4);
            Check.work(x, "day;day");
            c.due("of a work", x.fault(), 7);
            Check.book(x, "1 1;2");
            c.due("of a book", x.fault(), 5);
        });
        c.test(7, "NONE without", () -> {
            TownTrain x = new TownTrain();
            c.due("no text yet", x.fault(), -1);
            Check.law(x, "x");
            Check.law(x, "1");
            c.due("a good law", x.fault(), -1);
            Check.law(x, "x");
            Check.work(x, "day;");
            c.due("a good work", x.fault(), -1);
            Check.law(x, "x");
            Check.book(x, "");
            c.due("a good book", x.fault(), -1);
            Check.law(x, "x");
            Check.train(x, "");
            c.due("a good train", x.fault(), -1);
        });
        c.test(7, "a refused call is no text, nor is any other call", () -> {
            TownTrain x = new TownTrain();
            Check.law(x, "1+x");
            c.badArgument("train", () -> x.train(9));
            c.badArgument("law", () -> x.law(9));
            c.badArgument("work", () -> x.work(9));
            c.badArgument("book", () -> x.book(9));
            x.image();
            x.restore();
            x.undo();
            x.feed(0, 0, 0, 0, 0);
            c.due("the fault stays", x.fault(), 2);
            c.due("asked twice", x.fault(), 2);
        });
    }
}
