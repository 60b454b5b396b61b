/** Promises 28 to 41: the line, votes, noted days, frost, and seasons. */
public final class AskTest {
    private static final Check c = new Check();

    public static void main(String[] args) {
        overtakes();
        ways();
        votes();
        tiedVotes();
        noted();
        frost();
        seasons();
        seasonsFromNow();
        seasonsByFrost();
        spans();
        c.end("AskTest");
    }

    private static void overtakes() {
        TownTrain x = new TownTrain();
        c.due("left just now", x.overtakes(0, 0, 0), 0);
        c.due("one a day", x.overtakes(6, 2, 0), 10);
        c.due("as quick", x.overtakes(5, 1, 0), -1);
        c.due("as quick, rests", x.overtakes(5, 1, 2), 2);
        c.due("always rests", x.overtakes(1, 30, 1), 150);
        c.due("never goes", x.overtakes(0, 1, 1), -1);
        c.due("quick", x.overtakes(60, 1, 0), 1);
        c.due("just so", x.overtakes(10, 1, 0), 1);
        c.due("150 by ones", x.overtakes(6, 30, 0), 150);
        TownTrain y = Check.told("speed 20;");
        c.due("599 behind", y.overtakes(21, 20, 0), 400);
        c.due("too far for 400", y.overtakes(21, 21, 0), -1);
        c.due("rests each third", y.overtakes(20, 3, 3), 9);
        c.badArgument("v 61", () -> y.overtakes(61, 0, 0));
        c.badArgument("v -1", () -> y.overtakes(-1, 0, 0));
        c.badArgument("d 31", () -> y.overtakes(0, 31, 0));
        c.badArgument("d -1", () -> y.overtakes(0, -1, 0));
        c.badArgument("r 10", () -> y.overtakes(0, 0, 10));
        c.badArgument("r -1", () -> y.overtakes(0, 0, -1));
    }

    private static void ways() {
        TownTrain x = Check.told("well 20;well 12;speed 4;well 12;");
        c.due("here", x.way(0, 1), 0);
        c.due("straight", x.way(20, 5), 5);
        c.due("by 12", x.way(20, 3), 5);
        c.due("dry", x.way(20, 2), -1);
        c.due("by both", x.way(25, 3), 7);
        c.due("a day more", x.way(21, 40), 6);
        c.due("beyond", x.way(33, 3), -1);
        c.due("beyond by 4", x.way(33, 4), 9);
        c.due("water for 0", x.water(0), 1);
        c.due("water for 20", x.water(20), 3);
        c.due("water for 33", x.water(33), 4);
        c.due("water for 180", x.water(180), 40);
        c.due("water for 181", x.water(181), -1);
        TownTrain y = Check.told("well 7;well 9;speed 5;");
        // straight 11 is 3 days; by 7 it is 2 and 1; by 9 2 and 1; by both 2, 1, 1
        c.due("a well that is no detour", y.way(11, 2), 3);
        c.due("a well in days of its own", y.way(11, 3), 3);
        c.due("7 alone is too far", y.way(12, 1), -1);
        TownTrain z = Check.told("well 5;well 6;well 16;");
        // from 5 it is 3 days to 16, from 6 it is 2: to be at 6 costs a day more
        c.due("a day more to be at a well", z.way(16, 2), 4);
        c.due("straight", z.way(16, 4), 4);
        TownTrain u = Check.told("well 3;");
        c.due("behind a well", u.way(2, 1), 1);
        c.due("a stop costs a day", u.way(8, 1), 2);
        c.due("no stop", u.way(8, 2), 2);
        c.due("a day for 9", u.way(9, 1), -1);
        TownTrain eight = Check.told("well 35;well 40;well 5;well 10;well 15;well 20;well 25;well 30;");
        c.due("eight wells", eight.way(45, 1), 9);
        c.due("no ninth", eight.way(46, 1), -1);
        TownTrain v = Check.told("speed 1;well 40;well 80;well 120;well 160;well 200;");
        c.due("far", v.way(240, 40), 240);
        c.due("dry", v.way(240, 39), -1);
        c.due("water", v.water(240), 40);
        c.due("too far", v.water(241), -1);
        c.badArgument("mile 251", () -> v.way(251, 1));
        c.badArgument("mile -1", () -> v.way(-1, 1));
        c.badArgument("k 0", () -> v.way(1, 0));
        c.badArgument("k 41", () -> v.way(1, 41));
        c.badArgument("water -1", () -> v.water(-1));
        c.badArgument("water 251", () -> v.water(251));
    }

    private static void votes() {
        TownTrain x = Check.told("voter 0 1 2;voter 1 2 0;voter 2 0 1;");
        int[][] likers = {{0, 2, 1}, {1, 0, 2}, {2, 1, 0}};
        for (int a = 0; a < 3; a++) {
            for (int b = 0; b < 3; b++) {
                if (a != b) {
                    c.due("prefer " + a + b, x.prefer(a, b), likers[a][b]);
                    c.due("the last told wins " + a + b, x.wins(a, b, 0), 3 - a - b);
                }
            }
        }
        // the third told would lose to one of the first two, whom all foresee
        c.due("foreseen 0 1", x.wins(0, 1, 1), 1);
        c.due("foreseen 1 0", x.wins(1, 0, 1), 1);
        c.due("foreseen 0 2", x.wins(0, 2, 1), 0);
        c.due("foreseen 1 2", x.wins(1, 2, 1), 2);
        for (int plan = 0; plan < 3; plan++) {
            c.due("agendas", x.agendas(plan, 0), 2);
            c.due("agendas foreseen", x.agendas(plan, 1), 2);
        }
        c.due("a ring has no best", x.beats(), -1);
        TownTrain y = Check.told("voter 1 0 2;voter 1 2 0;voter 0 2 1;");
        c.due("best", y.beats(), 1);
        c.due("wins all", y.agendas(1, 0), 6);
        c.due("wins all foreseen", y.agendas(1, 1), 6);
        c.due("none", y.agendas(0, 0), 0);
        c.badArgument("plan 3", () -> y.prefer(3, 0));
        c.badArgument("plan -1", () -> y.prefer(0, -1));
        c.badArgument("one plan", () -> y.prefer(2, 2));
        c.badArgument("wins 3", () -> y.wins(3, 0, 0));
        c.badArgument("wins one", () -> y.wins(1, 1, 0));
        c.badArgument("how 2", () -> y.wins(1, 0, 2));
        c.badArgument("how -1", () -> y.wins(1, 0, -1));
        c.badArgument("agendas 3", () -> y.agendas(3, 0));
        c.badArgument("agendas how", () -> y.agendas(0, 2));
    }

    private static void tiedVotes() {
        TownTrain x = Check.told("voter 0 1 2;voter 2 1 0;");
        for (int how = 0; how < 2; how++) {
            c.due("the first told", x.wins(0, 1, how), 0);
            c.due("the first told", x.wins(1, 2, how), 1);
            c.due("the first told", x.wins(2, 0, how), 2);
            c.due("agendas", x.agendas(1, how), 2);
        }
        c.due("no best", x.beats(), -1);
        TownTrain y = Check.told("voter 0 1 2;voter 2 0 1;");
        // 0 and 2 are alike, 1 and 2 are alike, 0 beats 1
        c.due("sincere", y.wins(1, 0, 0), 0);
        c.due("foreseen", y.wins(1, 0, 1), 0);
        c.due("sincere 2 first", y.wins(1, 2, 0), 0);
        c.due("foreseen 2 first", y.wins(2, 1, 1), 2);
        // 1 then 2: 1 would lose to 0, 2 would win over 0: 0 and 2 are alike, so 1 stays, and 0 wins
        c.due("alike in the end", y.wins(1, 2, 1), 0);
        c.due("alike is no win", y.beats(), -1);
    }

    private static void noted() {
        TownTrain x = Check.told("wagon 1 1 0;wagon 1 1 1;wagon 1 1 0;hours 24;");
        c.due("none noted", x.fits(), 0);
        c.due("look at none", x.look(0), 0);
        c.due("look at none", x.look(1), 0);
        Check.work(x, "lay 0 3;lay 1 4;day;fetch 0;fetch 1;lay 1 3;day;fetch 1;lay 0 3;lay 2 5;day;day;");
        c.due("all fit", x.fits(), 15);
        // cell 3: days 0 and 2 of kind 0, day 1 of kind 1, day 3 nothing; 4 and 5 leave three
        c.due("look", x.look(0), 3);
        c.due("left", x.look(1), 2);
        Check.book(x, "3 0;");
        c.due("kind 0 in 3", x.fits(), 5);
        c.due("look next", x.look(0), 4);
        c.due("left next", x.look(1), 1);
        Check.book(x, "3 0;5 6;");
        c.due("nothing in 5", x.fits(), 1);
        c.due("the first not in a line", x.look(0), 0);
        Check.book(x, "0 6;1 6;");
        c.due("fits", x.fits(), 15);
        c.due("lines", x.told(8), 2);
        Check.book(x, "0 1;");
        c.due("none fits", x.fits(), 0);
        c.due("look, but no line's cell", x.look(0), 1);
        c.due("none left", x.look(1), 0);
        Check.book(x, "");
        c.due("no book", x.fits(), 15);
        Check.work(x, "again 10[day;];");
        c.due("12 are noted", x.fits(), 4095);
        c.due("the last noted", x.stood(11, 11), 6);
        c.badArgument("day 12", () -> x.stood(12, 0));
        c.badArgument("day -1", () -> x.stood(-1, 0));
        c.badArgument("cell 12", () -> x.stood(0, 12));
        c.badArgument("cell -1", () -> x.stood(0, -1));
        c.badArgument("look 2", () -> x.look(2));
        c.badArgument("look -1", () -> x.look(-1));
    }

    private static void fraction(TownTrain x, int n, long above, long below, boolean mild) {
        String what = (mild ? "mild " : "ahead ") + n;
        c.due(what + " above", mild ? x.mild(n, 0) : x.ahead(n, 0), above);
        c.due(what + " below", mild ? x.mild(n, 1) : x.ahead(n, 1), below);
    }

    private static void frost() {
        TownTrain x = Check.told("frost 3;frost 5;");
        fraction(x, 0, 1, 1, true);
        fraction(x, 1, 11, 16, true);
        fraction(x, 8, 214358881, 4294967296L, true);
        fraction(x, 0, 0, 1, false);
        fraction(x, 1, 11, 16, false);
        // 11/16 + 121/256
        fraction(x, 2, 297, 256, false);
        TownTrain y = Check.told("frost 16;");
        fraction(y, 0, 1, 1, true);
        fraction(y, 8, 0, 1, true);
        fraction(y, 7, 0, 1, false);
        TownTrain z = Check.told("frost 4;");
        fraction(z, 2, 9, 16, true);
        fraction(z, 2, 21, 16, false);
        TownTrain u = Check.told("frost 8;");
        fraction(u, 8, 1, 256, true);
        fraction(u, 7, 127, 128, false);
        TownTrain v = new TownTrain();
        fraction(v, 8, 1, 1, true);
        fraction(v, 7, 7, 1, false);
        c.badArgument("mild 9", () -> v.mild(9, 0));
        c.badArgument("mild -1", () -> v.mild(-1, 0));
        c.badArgument("mild part", () -> v.mild(1, 2));
        c.badArgument("mild part", () -> v.mild(1, -1));
        c.badArgument("ahead 8", () -> v.ahead(8, 0));
        c.badArgument("ahead -1", () -> v.ahead(-1, 0));
        c.badArgument("ahead part", () -> v.ahead(1, 2));
    }

    private static void season(TownTrain x, int seed, int days, int... want) {
        for (int what = 0; what < want.length; what++) {
            c.due("season " + seed + " of " + days + ", " + what, x.season(seed, days, what), want[what]);
        }
    }

    private static void seasons() {
        TownTrain x = Check.told("wagon 2 1 0;wagon 3 1 1;hours 8;speed 1;");
        season(x, 5, 3, 0, 6, 0, 3);
        TownTrain y = Check.told("wagon 2 1 0;wagon 3 1 1;hours 5;speed 1;");
        season(y, 5, 3, 2, 2, 0, 10);
        // one hour is left: the last is taken up, the first, which it needed, is left behind
        TownTrain z = Check.told("wagon 2 1 0;wagon 3 1 1;needs 1 0;hours 6;");
        season(z, 1, 1, 1, 2, 0, 0);
        season(z, 1, 2, 1, 2, 0, 6);
        // the hard cells are passed by; what it needs must be laid
        TownTrain u = Check.told("wagon 6 1 0;wagon 1 1 1;needs 1 0;hours 6;ground 0 9;ground 1 9;");
        season(u, 1, 1, 1, 1, 0, 0);
        TownTrain v = Check.told("wagon 6 1 0;wagon 1 1 1;needs 1 0;hours 5;");
        season(v, 1, 4, 0, 0, 0, 20);
        c.badArgument("days 0", () -> v.season(1, 0, 0));
        c.badArgument("days 41", () -> v.season(1, 41, 0));
        c.badArgument("what 4", () -> v.season(1, 1, 4));
        c.badArgument("what -1", () -> v.season(1, 1, -1));
    }

    private static void seasonsFromNow() {
        TownTrain x = Check.told("wagon 2 1 0;wagon 3 1 1;hours 8;speed 1;");
        Check.work(x, "lay 1 0;lay 0 1;");
        // 3 hours are left, and both taken up; one hour is not used
        season(x, 5, 1, 0, 0, 0, 1);
        season(x, 5, 2, 0, 2, 0, 2);
        c.due("nothing stays changed", x.told(5), 3);
        c.due("both stand", x.told(6), 2);
        Check.work(x, "day;");
        season(x, 5, 2, 2, 0, 0, 16);
        c.due("day", x.told(3), 1);
        c.due("not noted", x.stood(1, 0), -1);
        Check.work(x, "again 18[again 10[day;];];day;");
        Check.work(x, "again 20[day;];");
        c.due("the last day", x.told(3), 200);
        season(x, 5, 2, 2, 0, 0, 16);
    }

    private static void seasonsByFrost() {
        // seed 0: 12345, by 65536 0; then 0xd40bcae... by hand: 0, 14, ..
        TownTrain x = Check.told("frost 1;");
        c.due("seed 0 draws 0 first", x.season(0, 1, 2), 1);
        TownTrain y = Check.told("frost 16;");
        c.due("always", y.season(7, 40, 2), 40);
        TownTrain z = Check.told("frost 8;");
        int seed = 42;
        int frosts = 0;
        for (int day = 1; day <= 40; day++) {
            seed = seed * 1103515245 + 12345;
            frosts += (seed >> 16 & 0x7fff) % 16 < 8 ? 1 : 0;
            c.due("frosts of " + day, z.season(42, day, 2), frosts);
        }
        TownTrain u = Check.told("wagon 1 1 0;hours 3;frost 1;");
        Check.law(u, "1+frost*9");
        c.due("laid in frost", u.season(0, 1, 1), 0);
        c.due("can be laid now", u.can(0, 0) ? 1 : 0, 1);
        c.due("laid later", u.season(0, 2, 1), u.season(0, 2, 2) == 2 ? 0 : 1);
    }

    private static void spans() {
        TownTrain x = Check.told("wagon 2 1 0;wagon 3 1 0;hours 5;frost 1;");
        Check.law(x, "hours+frost*2");
        // in frost the first takes 4 of 5, and may be taken up; the other is not laid. Else both are left
        c.due("fewest", x.span(0, 1, 1, 0, 0), 0);
        c.due("most", x.span(0, 1, 1, 1, 0), 0);
        c.due("not left", x.span(0, 1, 1, 2, 0), 1);
        int seeds = 20;
        int without = 0;
        int fewest = 9;
        int most = 0;
        for (int i = 0; i < seeds; i++) {
            int left = x.season(-7 + i, 1, 0);
            fewest = Math.min(fewest, left);
            most = Math.max(most, left);
            without += left == 0 ? 1 : 0;
        }
        c.due("fewest of 20", x.span(-7, seeds, 1, 0, 1), fewest);
        c.due("most of 20", x.span(-7, seeds, 1, 1, 1), most);
        c.due("not left of 20", x.span(-7, seeds, 1, 2, 1), without);
        c.due("seeds wrap", x.span(Integer.MAX_VALUE, 2, 1, 2, 0),
            x.span(Integer.MAX_VALUE, 1, 1, 2, 0) + x.span(Integer.MIN_VALUE, 1, 1, 2, 0));
        Check.law(x, "hours");
        c.due("no frost in the law", x.span(0, 20, 1, 2, 1), 0);
        Check.law(x, "9");
        c.due("none laid", x.span(0, 20, 1, 2, 1), 20);
        c.badArgument("many 0", () -> x.span(0, 0, 1, 0, 0));
        c.badArgument("many 21", () -> x.span(0, 21, 1, 0, 0));
        c.badArgument("days 0", () -> x.span(0, 1, 0, 0, 0));
        c.badArgument("days 41", () -> x.span(0, 1, 41, 0, 0));
        c.badArgument("what 3", () -> x.span(0, 1, 1, 3, 0));
        c.badArgument("what -1", () -> x.span(0, 1, 1, -1, 0));
        c.badArgument("wagon 2", () -> x.span(0, 1, 1, 0, 2));
        c.badArgument("wagon -1", () -> x.span(0, 1, 1, 2, -1));
        c.due("none of them no element", x.status(0), 0);
    }
}
