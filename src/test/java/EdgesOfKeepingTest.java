import java.util.ArrayList;
import java.util.List;

/** Promises 42 to 45 at their edges: a test for each piece of the document that names one. */
public final class EdgesOfKeepingTest {
    private static final Check c = new Check();
    private static final String ONE = "wagon 1 1 0;";

    public static void main(String[] args) {
        image();
        restore();
        whatARestoreKeeps();
        status();
        everyRefusal();
        count();
        c.end("EdgesOfKeepingTest", 42, 43, 44, 45);
    }

    private static void image() {
        c.test(42, "how many there are", () -> {
            TownTrain x = new TownTrain();
            for (int many = 1; many <= 3; many++) {
                c.due("image " + many, x.image(), many);
                c.due("count " + many, x.count(0), many);
            }
        });
        c.test(42, "-1: there are 3", () -> {
            TownTrain x = Check.told(ONE);
            for (int i = 0; i < 3; i++) {
                Check.work(x, "day;");
                x.image();
            }
            Check.work(x, "day;");
            c.due("a fourth", x.image(), -1);
            c.due("there are three", x.count(0), 3);
            c.due("it is no refused call", x.status(0) + x.status(1), 0);
            c.due("the third is the latest", x.restore(), 2);
            c.due("its day", x.told(3), 3);
            c.due("there is room again", x.image(), 3);
        });
        c.test(42, "An IMAGE of all that WORK changes", () -> {
            TownTrain x = Check.told("wagon 2 1 4;wagon 1 1 5;speed 7;hours 9;");
            Check.work(x, "lay 0 3;day;lay 1 11;take 0;");
            x.image();
            Check.work(x, "take 1;day;fetch 0;lay 0 3;day;lay 1 5;");
            c.row("changed", x::told, 2, 0, 0, 3, 21, 8, 1, 1, 0, 0);
            x.restore();
            c.row("told", x::told, 2, 0, 0, 1, 7, 8, 1, 1, 0, 0);
            c.row("wagon 0", what -> x.wagon(0, what), 2, 1, 4, 2, -1, 0, 0);
            c.row("wagon 1", what -> x.wagon(1, what), 1, 1, 5, 1, 11, -1, 0);
            c.due("stands", x.stands(11), 1);
            c.due("empty", x.stands(5), -1);
            c.due("noted", x.stood(0, 3), 4);
            c.due("not noted", x.stood(1, 3), -1);
            c.due("fits", x.fits(), 1);
            c.due("behind", x.behind(0), 7);
        });
        c.test(42, "and of the WORKS that can be undone", () -> {
            TownTrain x = Check.told(ONE);
            Check.work(x, "day;");
            Check.work(x, "day;");
            x.image();
            x.undo();
            x.undo();
            Check.work(x, "lay 0 0;");
            x.restore();
            c.due("works", x.count(2), 2);
            c.due("undo", x.undo(), 1);
            c.due("day", x.told(3), 1);
            c.due("undo", x.undo(), 0);
            c.due("day", x.told(3), 0);
            c.due("not what was done between", x.told(6), 0);
            c.due("none", x.undo(), -1);
        });
        c.test(42, "an IMAGE of no WORKS, one of sixteen", () -> {
            TownTrain x = Check.told(ONE);
            x.image();
            for (int i = 0; i < 16; i++) {
                Check.work(x, "day;");
            }
            x.image();
            for (int i = 0; i < 16; i++) {
                x.undo();
            }
            c.due("restore", x.restore(), 1);
            c.due("sixteen", x.count(2), 16);
            c.due("full again", x.work(0), -20);
            c.due("restore", x.restore(), 0);
            c.due("none", x.count(2), 0);
            c.due("nothing to undo", x.undo(), -1);
            c.due("room again", x.work(0), 0);
        });
    }

    private static void restore() {
        c.test(43, "All is as in the latest IMAGE, which is gone: how many are left", () -> {
            TownTrain x = Check.told(ONE);
            for (int i = 0; i < 3; i++) {
                x.image();
                Check.work(x, "day;");
            }
            for (int left = 2; left >= 0; left--) {
                c.due("restore", x.restore(), left);
                c.due("images", x.count(0), left);
                c.due("day", x.told(3), left);
            }
        });
        c.test(43, "-1: there is none", () -> {
            TownTrain x = Check.told(ONE);
            c.due("none yet", x.restore(), -1);
            Check.work(x, "lay 0 0;lay 0 0;");
            c.due("none", x.restore(), -1);
            c.due("it changes nothing", x.stands(0), 0);
            c.due("nor this", x.count(2), 1);
            c.due("nor the refused steps", x.told(9), 1);
            x.image();
            c.due("one", x.restore(), 0);
            c.due("it is gone", x.restore(), -1);
            c.due("no refused call", x.status(0) + x.status(1), 0);
        });
        c.test(43, "an IMAGE stays as it was, whatever is done behind it", () -> {
            TownTrain x = Check.told("wagon 1 1 2;wagon 1 1 4;hours 24;");
            Check.work(x, "lay 0 3;");
            x.image();
            x.image();
            Check.work(x, "lay 1 4;day;");
            x.restore();
            c.due("laid", x.told(6), 1);
            Check.work(x, "take 0;lay 1 3;day;");
            x.restore();
            c.due("stands", x.stands(3), 0);
            c.due("hours", x.told(5), 23);
            c.due("works", x.count(2), 1);
        });
    }

    private static void whatARestoreKeeps() {
        c.test(43, "what WORK does not change stays: LAW, BOOK, TAPE, FAULT, refusals", () -> {
            TownTrain x = Check.told(ONE);
            x.image();
            Check.book(x, "1 1;2 2;");
            Check.law(x, "7");
            Check.law(x, "1+x");
            Check.put(x, "day;");
            c.noElement("a refused call", () -> x.behind(9));
            c.badArgument("another", () -> x.told(-1));
            x.restore();
            c.due("law", x.lasts(0, 0), 7);
            c.due("book", x.told(8), 2);
            c.due("fault", x.fault(), 2);
            c.row("status", x::status, 1, 1);
            c.due("tape", x.count(1), 20);
            c.due("its bytes", x.work(4), 1);
        });
    }

    private static void status() {
        c.test(44, "0 NoSuchElementException, 1 IllegalArgumentException", () -> {
            TownTrain x = Check.told(ONE);
            c.row("new", x::status, 0, 0);
            c.noElement("an element", () -> x.behind(1));
            c.row("one element", x::status, 1, 0);
            c.badArgument("an argument", () -> x.told(10));
            c.row("one of each", x::status, 1, 1);
            c.noElement("both are wrong", () -> x.wagon(1, 7));
            c.row("counted once, as what was thrown", x::status, 2, 1);
            c.badArgument("many are wrong", () -> x.span(0, 0, 0, 9, 9));
            c.row("counted once", x::status, 2, 2);
        });
        c.test(44, "NONE for others", () -> {
            TownTrain x = new TownTrain();
            for (int what : new int[] {-1, 2, 3, Integer.MIN_VALUE, Integer.MAX_VALUE}) {
                c.due("status " + what, x.status(what), -1);
            }
            c.row("asking is no refused call", x::status, 0, 0);
        });
        c.test(44, "(No IMAGE keeps it.)", () -> {
            TownTrain x = Check.told(ONE);
            c.noElement("ahead", () -> x.behind(1));
            x.image();
            c.noElement("behind", () -> x.behind(1));
            c.badArgument("behind", () -> x.told(10));
            x.restore();
            c.row("all are counted", x::status, 2, 1);
            Check.work(x, "day;");
            c.badArgument("behind a work", () -> x.told(10));
            x.undo();
            c.row("nor does undo", x::status, 2, 2);
            Check.train(x, "");
            c.row("nor a new train", x::status, 2, 2);
        });
        c.test(44, "answers of NONE, FAULTS and -20 are no refused calls", () -> {
            TownTrain x = Check.told(ONE);
            x.undo();
            x.restore();
            Check.law(x, "bad");
            for (int i = 0; i < 17; i++) {
                Check.work(x, "take 0;");
            }
            for (int i = 0; i < 4; i++) {
                x.image();
            }
            for (int i = 0; i < 31; i++) {
                x.feed(0, 0, 0, 0, 0);
            }
            x.status(7);
            x.count(7);
            c.row("none", x::status, 0, 0);
        });
    }

    private static List<Check.Call> badArguments(TownTrain x) {
        List<Check.Call> calls = new ArrayList<>();
        calls.add(() -> x.train(-1));
        calls.add(() -> x.law(-1));
        calls.add(() -> x.work(-1));
        calls.add(() -> x.book(-1));
        calls.add(() -> x.told(10));
        calls.add(() -> x.wagon(0, 7));
        calls.add(() -> x.stands(12));
        calls.add(() -> x.ground(12));
        calls.add(() -> x.lasts(0, 12));
        calls.add(() -> x.would(0, 1, 0, 0, 0, 0));
        calls.add(() -> x.can(0, 12) ? 1 : 0);
        calls.add(() -> x.best(4));
        calls.add(() -> x.bestAt(4, 0));
        calls.add(() -> x.loaded(2));
        calls.add(() -> x.crew(4));
        calls.add(() -> x.crewOf(4, 0));
        calls.add(() -> x.overtakes(61, 0, 0));
        calls.add(() -> x.way(251, 1));
        calls.add(() -> x.water(251));
        calls.add(() -> x.prefer(1, 1));
        calls.add(() -> x.wins(1, 1, 0));
        calls.add(() -> x.agendas(3, 0));
        calls.add(() -> x.look(2));
        calls.add(() -> x.stood(12, 0));
        calls.add(() -> x.mild(9, 0));
        calls.add(() -> x.ahead(8, 0));
        calls.add(() -> x.season(0, 41, 0));
        calls.add(() -> x.span(0, 21, 1, 0, 0));
        return calls;
    }

    private static List<Check.Call> noElements(TownTrain x) {
        List<Check.Call> calls = new ArrayList<>();
        calls.add(() -> x.wagon(2, 7));
        calls.add(() -> x.tie(2, 0));
        calls.add(() -> x.tie(0, 2));
        calls.add(() -> x.lasts(2, 12));
        calls.add(() -> x.can(2, 12) ? 1 : 0);
        calls.add(() -> x.ties(2));
        calls.add(() -> x.bestAt(4, 2));
        calls.add(() -> x.rather(2));
        calls.add(() -> x.crewOf(4, 2));
        calls.add(() -> x.behind(2));
        return calls;
    }

    /** All that can be told of a train, as one text. */
    private static String all(TownTrain x) {
        StringBuilder b = new StringBuilder();
        for (int what = 0; what < 10; what++) {
            b.append(x.told(what)).append(' ');
        }
        for (int what = 0; what < 7; what++) {
            b.append(x.wagon(0, what)).append(' ').append(x.wagon(1, what)).append(' ');
        }
        for (int cell = 0; cell < 12; cell++) {
            b.append(x.stands(cell)).append(' ').append(x.stood(0, cell)).append(' ').append(x.lasts(1, cell)).append(' ');
        }
        b.append(x.fault()).append(' ').append(x.count(0)).append(' ').append(x.count(1)).append(' ').append(x.count(2));
        return b.toString();
    }

    private static void everyRefusal() {
        c.test(44, "every call that can be refused is counted, and changes nothing", () -> {
            TownTrain x = Check.told("wagon 1 1 0;wagon 2 2 1;gang 1;");
            Check.book(x, "3 3;");
            Check.work(x, "lay 1 5;day;lay 0 4;take 1;");
            x.image();
            Check.law(x, "4");
            Check.law(x, "1+x");
            Check.put(x, "day;");
            String before = all(x);
            int many = 0;
            for (Check.Call call : badArguments(x)) {
                many++;
                c.badArgument("call " + many, call);
                c.row("counted", x::status, 0, many);
                c.due("nothing is changed by " + many, all(x).equals(before) ? 1 : 0, 1);
            }
            int elements = 0;
            for (Check.Call call : noElements(x)) {
                elements++;
                c.noElement("element " + elements, call);
                c.row("counted", x::status, elements, many);
                c.due("nothing is changed by element " + elements, all(x).equals(before) ? 1 : 0, 1);
            }
            c.due("all that may throw an IllegalArgumentException", many, 28);
            c.due("all that may throw a NoSuchElementException, tie twice", elements, 10);
        });
    }

    private static void count() {
        c.test(45, "0 IMAGES", () -> {
            TownTrain x = new TownTrain();
            c.due("none", x.count(0), 0);
            x.image();
            x.image();
            x.image();
            x.image();
            c.due("three", x.count(0), 3);
            x.restore();
            c.due("two", x.count(0), 2);
        });
        c.test(45, "1 bytes of the TAPE", () -> {
            TownTrain x = new TownTrain();
            c.due("none", x.count(1), 0);
            x.feed(0, 0, 0, 0, 0);
            c.due("20", x.count(1), 20);
            for (int i = 0; i < 40; i++) {
                x.feed(0, 0, 0, 0, 0);
            }
            c.due("600", x.count(1), 600);
            x.train(0);
            c.due("read", x.count(1), 0);
        });
        c.test(45, "2 WORKS that can be undone", () -> {
            TownTrain x = new TownTrain();
            c.due("none", x.count(2), 0);
            for (int i = 1; i <= 16; i++) {
                x.work(0);
                c.due("works", x.count(2), i);
            }
            x.work(0);
            c.due("no 17th", x.count(2), 16);
            x.undo();
            c.due("undone", x.count(2), 15);
            Check.work(x, "bad");
            c.due("a fault is none", x.count(2), 15);
            Check.train(x, "");
            c.due("a new train", x.count(2), 0);
        });
        c.test(45, "NONE for others", () -> {
            TownTrain x = new TownTrain();
            for (int what : new int[] {-1, 3, 4, Integer.MIN_VALUE, Integer.MAX_VALUE}) {
                c.due("count " + what, x.count(what), -1);
            }
            c.due("no refused call", x.status(1), 0);
        });
    }
}
