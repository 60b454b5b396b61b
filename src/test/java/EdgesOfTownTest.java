/** Promises 12, 13 and 17 to 26 at their edges: a test for each piece of the document that names one. */
public final class EdgesOfTownTest {
    private static final Check c = new Check();
    private static final String ONE = "wagon 1 1 0;";

    public static void main(String[] args) {
        ground();
        tie();
        cost();
        ties();
        best();
        bestOfAlike();
        bestRefused();
        bestAt();
        rather();
        load();
        loaded();
        shunts();
        crew();
        crewOf();
        c.end("EdgesOfTownTest", 12, 13, 17, 18, 19, 20, 21, 22, 23, 24, 25, 26);
    }

    /** Ground of all cells from 0 on. */
    private static String ground(int... hard) {
        StringBuilder text = new StringBuilder();
        for (int cell = 0; cell < hard.length; cell++) {
            text.append("ground ").append(cell).append(' ').append(hard[cell]).append(';');
        }
        return text.toString();
    }

    private static void ground() {
        c.test(12, "How hard a CELL is", () -> {
            TownTrain x = Check.told("ground 0 9;ground 11 1;");
            c.row("ground", x::ground, 9, 0, 0, 0, 0, 0, 0, 0, 0, 0, 0, 1);
        });
        c.test(12, "IllegalArgumentException: no such CELL", () -> {
            TownTrain x = new TownTrain();
            c.range("ground", x::ground, 0, 11);
        });
    }

    private static void tie() {
        c.test(13, "What two WAGONS are tied by (0: not", () -> {
            TownTrain x = Check.told(ONE.repeat(8) + "tie 7 0 9;tie 0 7 2;tie 3 4 1;");
            c.row("of the first", other -> x.tie(0, other), 0, 0, 0, 0, 0, 0, 0, 11);
            c.row("of the last", other -> x.tie(7, other), 11, 0, 0, 0, 0, 0, 0, 0);
            c.row("of 4", other -> x.tie(4, other), 0, 0, 0, 1, 0, 0, 0, 0);
        });
        c.test(13, "one with itself: 0)", () -> {
            TownTrain x = Check.told(ONE.repeat(2) + "tie 0 1 9;");
            c.due("the first", x.tie(0, 0), 0);
            c.due("the last", x.tie(1, 1), 0);
        });
        c.test(13, "NoSuchElementException", () -> {
            TownTrain x = Check.told(ONE.repeat(2));
            c.wagons("tie", w -> x.tie(w, 0), 2);
            c.wagons("tie to", w -> x.tie(0, w), 2);
            c.noElement("one with itself, but no such", () -> x.tie(2, 2));
            c.due("each is counted once", x.status(0), 9);
        });
    }

    private static void cost() {
        c.test(17, "COST of a TOWN: of all ties of two that are laid N by how many CELLS they are apart", () -> {
            TownTrain x = Check.told(ONE.repeat(3) + "tie 0 1 9;tie 1 2 4;hours 24;");
            c.due("none laid", x.cost(), 0);
            Check.work(x, "lay 0 0;");
            c.due("one of two laid", x.cost(), 0);
            Check.work(x, "lay 1 11;");
            c.due("as far as can be", x.cost(), 99);
            Check.work(x, "lay 2 10;");
            c.due("beside", x.cost(), 103);
            Check.work(x, "take 1;");
            c.due("taken up", x.cost(), 0);
            Check.work(x, "lay 1 5;day;");
            c.due("left", x.cost(), 0);
        });
        c.test(17, "and the ground of all CELLS in which one is laid", () -> {
            TownTrain x = Check.told(ONE.repeat(2) + "ground 0 9;ground 5 8;ground 11 7;hours 24;");
            Check.work(x, "lay 0 0;");
            c.due("the first", x.cost(), 9);
            Check.work(x, "lay 1 11;");
            c.due("the last, too", x.cost(), 16);
        });
        c.test(17, "all eight are laid", () -> {
            TownTrain x = Check.told(ONE.repeat(8) + "tie 0 7 1;tie 7 6 2;ground 0 1;ground 8 9;hours 24;");
            Check.work(x, "lay 0 0;lay 1 1;lay 2 2;lay 3 3;lay 4 4;lay 5 5;lay 6 6;lay 7 11;");
            c.due("cost", x.cost(), 11 + 10 + 1);
            c.due("of the first", x.ties(0), 11);
            c.due("of the last", x.ties(7), 21);
            c.due("it would rather stand beside 6", x.rather(7), 7);
        });
        c.test(17, "no WAGONS", () -> c.due("nothing", new TownTrain().cost(), 0));
    }

    private static void ties() {
        c.test(18, "What a WAGON's ties cost now", () -> {
            TownTrain x = Check.told(ONE.repeat(3) + "tie 0 1 9;tie 0 2 1;tie 0 1 2;ground 0 9;hours 24;");
            Check.work(x, "lay 0 0;");
            c.due("the others are not laid, the ground is no tie", x.ties(0), 0);
            Check.work(x, "lay 1 11;");
            c.due("one tie", x.ties(0), 121);
            Check.work(x, "lay 2 3;");
            c.due("two ties", x.ties(0), 124);
            c.due("from the other end", x.ties(1), 121);
            c.due("of the third", x.ties(2), 3);
        });
        c.test(18, "(0: not laid)", () -> {
            TownTrain x = Check.told(ONE.repeat(2) + "tie 0 1 9;hours 24;");
            Check.work(x, "lay 0 0;");
            c.due("on the train", x.ties(1), 0);
            Check.work(x, "lay 1 5;day;");
            c.due("left", x.ties(1), 0);
        });
        c.test(18, "NoSuchElementException", () -> {
            TownTrain x = Check.told(ONE.repeat(2));
            c.wagons("ties", x::ties, 2);
            c.noElement("no wagons", () -> new TownTrain().ties(0));
        });
    }

    private static void best() {
        c.test(19, "BEST of told WAGONS (bits; 5 at most): none", () -> {
            TownTrain x = Check.told(ONE.repeat(2) + ground(9, 9, 9, 9, 9, 9, 9, 9, 9, 9, 9, 9));
            c.due("none told", x.best(0), 0);
            c.due("none told of none", new TownTrain().best(0), 0);
        });
        c.test(19, "5 at most: just five", () -> {
            TownTrain x = Check.told(ONE.repeat(8) + ground(9, 9, 9, 9, 9, 9, 9, 9, 9, 9, 9, 9));
            c.due("the first five", x.best(0b00011111), 45);
            c.due("the last five", x.best(0b11111000), 45);
            c.due("four", x.best(0b10101010), 36);
        });
        c.test(19, "were they alone laid, in any CELLS", () -> {
            TownTrain x = Check.told(ONE.repeat(3) + "tie 0 1 3;tie 1 2 9;needs 2 0;hours 1;");
            Check.work(x, "lay 0 0;");
            c.due("others that are laid, needs and hours count not", x.best(0b110), 9);
            c.due("nor that one is laid", x.best(0b011), 3);
            Check.work(x, "day;");
            c.due("nor that one is left", x.best(0b011), 3);
            c.due("ties to others count not", x.best(0b101), 0);
        });
        c.test(19, "the least COST", () -> {
            // apart by one over hard ground, or together on it
            TownTrain x = Check.told(ONE.repeat(2) + "tie 0 1 4;" + ground(0, 9, 9, 9, 9, 9, 9, 9, 9, 9, 9, 0));
            c.due("one is hard", x.best(3), 13);
            TownTrain y = Check.told(ONE.repeat(2) + "tie 0 1 1;" + ground(0, 9, 9, 9, 9, 9, 9, 9, 9, 9, 9, 1));
            c.due("the first and one beside it", y.best(3), 10);
            TownTrain z = Check.told(ONE.repeat(2) + "tie 0 1 1;" + ground(0, 9, 9, 9, 0, 9, 9, 9, 9, 9, 9, 9));
            c.due("far apart", z.best(3), 4);
        });
        c.test(19, "the largest COST there is", () -> {
            // five by ties of 9 each: apart by 1 four times, 2 three times, 3 twice, 4 once: 20 by 9
            StringBuilder ties = new StringBuilder();
            for (int a = 0; a < 5; a++) {
                for (int b = 0; b < a; b++) {
                    ties.append("tie ").append(a).append(' ').append(b).append(" 9;");
                }
            }
            TownTrain x = Check.told(ONE.repeat(5) + ties + ground(9, 9, 9, 9, 9, 9, 9, 9, 9, 9, 9, 9));
            c.due("all tied", x.best(31), 180 + 45);
            TownTrain y = Check.told(ONE.repeat(2) + "tie 0 1 9;".repeat(57));
            c.due("one tie of 513", y.best(3), 513);
        });
    }

    private static void cells(TownTrain x, int wagons, int... want) {
        c.row("cells by " + wagons + ", of", w -> x.bestAt(wagons, w), of(want));
    }

    private static long[] of(int[] numbers) {
        long[] all = new long[numbers.length];
        for (int i = 0; i < all.length; i++) {
            all[i] = numbers[i];
        }
        return all;
    }

    private static void bestOfAlike() {
        c.test(20, "of alike TOWNS the first (WAGON by WAGON the least CELL)", () -> {
            TownTrain x = Check.told(ONE.repeat(5));
            cells(x, 31, 0, 1, 2, 3, 4);
            TownTrain y = Check.told(ONE.repeat(3) + "tie 0 2 1;");
            // 0 in the first cell has 2 beside it, so 1 stands behind
            cells(y, 7, 0, 2, 1);
            TownTrain z = Check.told(ONE.repeat(3) + "tie 0 1 1;tie 0 2 1;");
            cells(z, 7, 1, 0, 2);
            TownTrain u = Check.told(ONE.repeat(2) + ground(1, 0, 1, 0, 1, 1, 1, 1, 1, 1, 1, 1));
            cells(u, 3, 1, 3);
        });
        c.test(20, "the first TOWN in the last CELLS", () -> {
            TownTrain x = Check.told(ONE.repeat(2) + ground(1, 1, 1, 1, 1, 1, 1, 1, 1, 1, 0, 0));
            cells(x, 3, 10, 11);
            TownTrain y = Check.told(ONE.repeat(5) + ground(9, 9, 9, 9, 9, 9, 9, 0, 0, 0, 0, 0));
            cells(y, 31, 7, 8, 9, 10, 11);
        });
    }

    private static void bestRefused() {
        c.test(19, "IllegalArgumentException: bits of no WAGONS", () -> {
            TownTrain x = Check.told(ONE.repeat(3));
            c.range("best", x::best, 0, 7);
            c.badArgument("one bit of none", () -> x.best(8));
            c.badArgument("a bit beside one", () -> x.best(9));
            TownTrain y = new TownTrain();
            c.badArgument("no wagons", () -> y.best(1));
            TownTrain z = Check.told(ONE.repeat(8));
            c.badArgument("a ninth", () -> z.best(256));
        });
        c.test(19, "or of more than 5 (so below)", () -> {
            TownTrain x = Check.told(ONE.repeat(8));
            for (int bits = 0; bits < 256; bits++) {
                int wagons = bits;
                long got = Check.answer(() -> x.best(wagons));
                c.due("bits " + bits, got, Integer.bitCount(bits) > 5 ? Check.BAD_ARGUMENT : 0);
            }
            c.due("37 are of more than 5", x.status(1), 37);
        });
    }

    private static void bestAt() {
        c.test(20, "The CELL of a WAGON by BEST; NONE: it is not told", () -> {
            TownTrain x = Check.told(ONE.repeat(8));
            cells(x, 0, -1, -1, -1, -1, -1, -1, -1, -1);
            cells(x, 1, 0, -1, -1, -1, -1, -1, -1, -1);
            cells(x, 128, -1, -1, -1, -1, -1, -1, -1, 0);
            cells(x, 0b10010010, -1, 0, -1, -1, 1, -1, -1, 2);
            cells(x, 0b11111000, -1, -1, -1, 0, 1, 2, 3, 4);
        });
        c.test(20, "IllegalArgumentException: bits of no WAGONS, or of more than 5", () -> {
            TownTrain x = Check.told(ONE.repeat(6));
            c.range("bits", bits -> x.bestAt(bits, 0), 0, 62);
            c.badArgument("six", () -> x.bestAt(63, 0));
            c.badArgument("a bit of none", () -> x.bestAt(64, 0));
            c.badArgument("for one that is not told, too", () -> x.bestAt(64, 5));
        });
        c.test(20, "NoSuchElementException, ahead of IllegalArgumentException", () -> {
            TownTrain x = Check.told(ONE.repeat(6));
            c.wagons("bestAt", w -> x.bestAt(1, w), 6);
            c.noElement("both are wrong", () -> x.bestAt(63, 6));
            c.noElement("both are wrong", () -> x.bestAt(-1, -1));
            c.noElement("no wagons", () -> new TownTrain().bestAt(0, 0));
        });
    }

    private static void rather() {
        c.test(21, "the empty CELL by which, all others staying, COST would be least", () -> {
            TownTrain x = Check.told(ONE.repeat(3) + "tie 0 1 3;tie 0 2 2;hours 24;");
            Check.work(x, "lay 0 0;lay 1 11;lay 2 8;");
            // beside 1 it is 3 and 4, beside 2 on its right 6 and 2
            c.due("not where another stands", x.rather(0), 10);
            c.due("of the other", x.rather(1), 1);
            c.due("of the third", x.rather(2), 1);
        });
        c.test(21, "COST with the ground of the CELL", () -> {
            TownTrain x = Check.told(ONE.repeat(2) + "tie 0 1 1;ground 5 9;ground 6 9;ground 8 9;ground 9 3;hours 24;");
            Check.work(x, "lay 0 0;lay 1 7;");
            // 3 away without ground, 2 away on ground 3: the first is 3, the other 5
            c.due("hard cells are passed by", x.rather(0), 4);
        });
        c.test(21, "if that is less than now", () -> {
            TownTrain x = Check.told(ONE.repeat(2) + "tie 0 1 1;hours 24;");
            Check.work(x, "lay 0 4;lay 1 5;");
            c.due("as good elsewhere", x.rather(0), -1);
            c.due("nor the other", x.rather(1), -1);
            TownTrain y = Check.told(ONE + "ground 0 1;");
            Check.work(y, "lay 0 0;");
            c.due("less by one", y.rather(0), 1);
            TownTrain z = Check.told(ONE + "ground 1 1;");
            Check.work(z, "lay 0 0;");
            c.due("none is less", z.rather(0), -1);
        });
        c.test(21, "of alike ones the least", () -> {
            TownTrain x = Check.told(ONE.repeat(2) + "tie 0 1 1;hours 24;");
            Check.work(x, "lay 0 0;lay 1 6;");
            c.due("5 and 7 are alike", x.rather(0), 5);
            TownTrain y = Check.told(ONE + ground(9, 9, 9, 9, 9, 9, 9, 9, 9, 9, 9, 0));
            Check.work(y, "lay 0 0;");
            c.due("the last cell", y.rather(0), 11);
            TownTrain z = Check.told(ONE + "ground 11 1;");
            Check.work(z, "lay 0 11;");
            c.due("the first cell", z.rather(0), 0);
        });
        c.test(21, "NONE: not laid, or no such CELL", () -> {
            TownTrain x = Check.told(ONE + "ground 3 9;");
            c.due("on the train", x.rather(0), -1);
            Check.work(x, "lay 0 3;");
            c.due("laid", x.rather(0), 0);
            Check.work(x, "day;");
            c.due("left", x.rather(0), -1);
        });
        c.test(21, "NoSuchElementException", () -> {
            TownTrain x = Check.told(ONE.repeat(2));
            c.wagons("rather", x::rather, 2);
            c.noElement("no wagons", () -> new TownTrain().rather(0));
        });
    }

    private static String weights(int... weights) {
        StringBuilder text = new StringBuilder();
        for (int w : weights) {
            text.append("wagon 1 ").append(w).append(" 0;");
        }
        return text.toString();
    }

    private static void load() {
        c.test(22, "the sum of each place (1 first) by WEIGHT: the least", () -> {
            c.due("none", new TownTrain().load(), 0);
            c.due("one of the heaviest", Check.told(weights(9)).load(), 9);
            c.due("the heavier first", Check.told(weights(1, 9)).load(), 11);
            c.due("eight of the heaviest", Check.told(weights(9, 9, 9, 9, 9, 9, 9, 9)).load(), 324);
            c.due("eight of the lightest", Check.told(weights(1, 1, 1, 1, 1, 1, 1, 1)).load(), 36);
        });
        c.test(22, "rows of all WAGONS in which what one needs is ahead of it", () -> {
            c.due("it has to wait", Check.told(weights(1, 9) + "needs 1 0;").load(), 19);
            // 2 needs 1, 1 needs 0: but one row
            c.due("one row alone", Check.told(weights(1, 2, 9) + "needs 1 0;needs 2 1;").load(), 32);
            StringBuilder chain = new StringBuilder(weights(1, 2, 3, 4, 5, 6, 7, 8));
            for (int w = 1; w < 8; w++) {
                chain.append("needs ").append(w).append(' ').append(w - 1).append(';');
            }
            c.due("a chain of eight", Check.told(chain.toString()).load(), 204);
        });
        c.test(22, "all WAGONS, whether laid, left or on the train", () -> {
            TownTrain x = Check.told(weights(1, 9));
            Check.work(x, "lay 0 0;day;lay 1 0;");
            c.due("load", x.load(), 11);
        });
    }

    private static void row(TownTrain x, int... want) {
        c.row("place", x::loaded, of(want));
    }

    private static void loaded() {
        c.test(23, "The WAGON in a place (0 to WAGONS less 1) of LOAD", () -> {
            row(Check.told(weights(1, 2, 3)), 2, 1, 0);
            row(Check.told(weights(3, 1, 2) + "needs 2 1;"), 0, 1, 2);
            row(Check.told(weights(1, 2, 3, 4, 5, 6, 7, 8)), 7, 6, 5, 4, 3, 2, 1, 0);
            row(Check.told(weights(5)), 0);
        });
        c.test(23, "of alike rows the first (place by place the least WAGON)", () -> {
            row(Check.told(weights(4, 4, 4, 4, 4, 4, 4, 4)), 0, 1, 2, 3, 4, 5, 6, 7);
            row(Check.told(weights(2, 9, 9, 2)), 1, 2, 0, 3);
            // 0 1 2 is 1 + 18 + 15, 2 0 1 is 5 + 2 + 27: alike
            row(Check.told(weights(1, 9, 5) + "needs 1 0;"), 0, 1, 2);
        });
        c.test(23, "IllegalArgumentException: no such place", () -> {
            TownTrain x = Check.told(weights(1, 2, 3));
            c.range("loaded", x::loaded, 0, 2);
            TownTrain y = Check.told(weights(1, 1, 1, 1, 1, 1, 1, 1));
            c.range("loaded of eight", y::loaded, 0, 7);
            TownTrain z = new TownTrain();
            c.badArgument("no wagons", () -> z.loaded(0));
            c.badArgument("no wagons", () -> z.loaded(-1));
        });
    }

    private static void shunts() {
        c.test(24, "how many pairs stand in it the other way round than by number", () -> {
            c.due("none", new TownTrain().shunts(), 0);
            c.due("one", Check.told(weights(1)).shunts(), 0);
            c.due("two as they are", Check.told(weights(2, 1)).shunts(), 0);
            c.due("two the other way", Check.told(weights(1, 2)).shunts(), 1);
            c.due("alike ones stay", Check.told(weights(5, 5, 5)).shunts(), 0);
            c.due("all pairs of eight", Check.told(weights(1, 2, 3, 4, 5, 6, 7, 8)).shunts(), 28);
            c.due("one goes past two", Check.told(weights(1, 1, 2)).shunts(), 2);
        });
    }

    private static String hours(int... hours) {
        StringBuilder text = new StringBuilder();
        for (int h : hours) {
            text.append("wagon ").append(h).append(" 1 0;");
        }
        return text.toString();
    }

    private static void crew() {
        c.test(25, "NONE: there are no GANGS (0: none are told)", () -> {
            TownTrain x = Check.told(hours(2));
            c.due("no gangs", x.crew(1), -1);
            c.due("none told", x.crew(0), 0);
            c.due("none told, no wagons", new TownTrain().crew(0), 0);
            TownTrain y = Check.told(hours(2) + "gang 1;");
            c.due("none told, a gang", y.crew(0), 0);
            c.due("one told", y.crew(1), 2);
        });
        c.test(25, "a GANG takes all its HOURS H by S (begun ones whole)", () -> {
            c.due("6 by 3", Check.told(hours(6) + "gang 3;").crew(1), 2);
            c.due("5 by 3", Check.told(hours(5) + "gang 3;").crew(1), 2);
            c.due("4 by 3", Check.told(hours(4) + "gang 3;").crew(1), 2);
            c.due("3 by 3", Check.told(hours(3) + "gang 3;").crew(1), 1);
            c.due("1 by 3", Check.told(hours(1) + "gang 3;").crew(1), 1);
            c.due("all its hours, then by 3", Check.told(hours(1, 1, 1) + "gang 3;").crew(7), 1);
            c.due("one more", Check.told(hours(1, 1, 2) + "gang 3;").crew(7), 2);
        });
        c.test(25, "the time is that of the slowest: the least", () -> {
            c.due("two gangs", Check.told(hours(3, 3, 2, 2, 2) + "gang 1;gang 1;").crew(31), 6);
            c.due("a quick one does all", Check.told(hours(1, 2) + "gang 1;gang 3;").crew(3), 1);
            c.due("the longest there is", Check.told(hours(6, 6, 6, 6, 6, 6, 6, 6) + "gang 1;").crew(255), 48);
            c.due("the shortest", Check.told(hours(1, 1, 1, 1) + "gang 1;".repeat(4)).crew(15), 1);
            c.due("four gangs", Check.told(hours(6, 6, 6, 6, 6, 6, 6, 6) + "gang 3;".repeat(4)).crew(255), 4);
            c.due("one wagon is not shared", Check.told(hours(6, 1) + "gang 1;gang 1;").crew(3), 6);
            c.due("nor by four", Check.told(hours(6, 1, 1, 1) + "gang 1;".repeat(4)).crew(15), 6);
            c.due("halves that don't come out", Check.told(hours(4, 4, 4) + "gang 1;gang 1;").crew(7), 8);
            c.due("nor by three", Check.told(hours(5, 5, 4, 4, 3, 3, 3) + "gang 1;gang 1;gang 1;").crew(127), 9);
        });
        c.test(25, "each of the told WAGONS, as if it were on the train", () -> {
            TownTrain x = Check.told(hours(1, 2, 6) + "needs 1 0;gang 1;");
            Check.work(x, "lay 0 0;");
            c.due("the first two", x.crew(3), 3);
            c.due("the last", x.crew(4), 6);
        });
        c.test(25, "IllegalArgumentException: bits of no WAGONS", () -> {
            TownTrain x = Check.told(hours(1, 1) + "gang 1;");
            c.range("crew", x::crew, 0, 3);
            c.badArgument("a bit of none", () -> x.crew(4));
            TownTrain y = Check.told(hours(1, 1, 1, 1, 1, 1, 1, 1) + "gang 1;");
            c.range("all eight", y::crew, 0, 255);
            TownTrain z = new TownTrain();
            c.badArgument("no wagons", () -> z.crew(1));
            c.badArgument("no gangs, too", () -> Check.told(hours(1)).crew(2));
        });
    }

    private static void gangs(TownTrain x, int wagons, int... want) {
        c.row("gang by " + wagons + ", of", w -> x.crewOf(wagons, w), of(want));
    }

    private static void crewOf() {
        c.test(26, "The GANG of a WAGON by CREW", () -> {
            gangs(Check.told(hours(6, 1) + "gang 1;gang 3;"), 3, 1, 0);
            gangs(Check.told(hours(4, 4, 4, 4) + "gang 1;".repeat(4)), 15, 0, 1, 2, 3);
        });
        c.test(26, "of alike ways the first (WAGON by WAGON the least GANG)", () -> {
            gangs(Check.told(hours(3, 3, 2, 2, 2) + "gang 1;gang 1;"), 31, 0, 0, 1, 1, 1);
            // the slowest takes 4: the others may be together, as long as they take no more
            gangs(Check.told(hours(1, 1, 4, 1) + "gang 1;gang 1;"), 15, 0, 0, 1, 0);
            // each half is 6: the first two may not be together
            gangs(Check.told(hours(2, 3, 3, 2, 2) + "gang 1;gang 1;"), 31, 0, 1, 1, 0, 0);
            // 9 each: 5 and 4, 5 and 4, 3 and 3 and 3
            gangs(Check.told(hours(5, 5, 4, 4, 3, 3, 3) + "gang 1;gang 1;gang 1;"), 127, 0, 1, 0, 1, 2, 2, 2);
            gangs(Check.told(hours(1) + "gang 1;gang 3;"), 1, 0);
            gangs(Check.told(hours(2) + "gang 1;gang 3;gang 2;"), 1, 1);
            gangs(Check.told(hours(2) + "gang 1;gang 2;gang 3;"), 1, 1);
        });
        c.test(26, "NONE: it is not told, or no GANGS", () -> {
            TownTrain x = Check.told(hours(1, 1, 1) + "gang 1;");
            gangs(x, 0, -1, -1, -1);
            gangs(x, 2, -1, 0, -1);
            gangs(x, 5, 0, -1, 0);
            gangs(Check.told(hours(1, 1)), 3, -1, -1);
            gangs(Check.told(hours(1, 1)), 0, -1, -1);
        });
        c.test(26, "IllegalArgumentException: bits of no WAGONS", () -> {
            TownTrain x = Check.told(hours(1, 1) + "gang 1;");
            c.range("bits", bits -> x.crewOf(bits, 0), 0, 3);
        });
        c.test(26, "NoSuchElementException, ahead of IllegalArgumentException", () -> {
            TownTrain x = Check.told(hours(1, 1) + "gang 1;");
            c.wagons("crewOf", w -> x.crewOf(3, w), 2);
            c.noElement("both are wrong", () -> x.crewOf(4, 2));
            c.noElement("both are wrong", () -> x.crewOf(-1, -1));
        });
    }
}
